/** The boundary cases that the document names of interest and of what a line's test tells. */
public final class EdgesOfInterestTest {
    public static void main(String[] args) {
        wrongArguments();
        eachDayOfTheMonthCounts();
        dayBesideTheMonth();
        earlierInterestIsInIt();
        wholePounds();
        below240();
        hundredths();
        textOfTheLastDay();
        theFirstLineNotZero();
        zeroWithoutOne();
        wordsOnTheLastDay();
        baseOfTheMonth();
        ageAheadOfTheOpening();
        lessAndEqual();
        bothSidesNotZero();
        sumsOfParts();
        greatNumbers();
        Check.end();
    }

    private static PennyBank with(String text, int sum) {
        PennyBank bank = new PennyBank();
        Check.due("<" + text + ">", Check.text(bank, text, 0), 0);
        bank.account(0, 0);
        if (sum > 0) {
            bank.post(0, 0, 0, sum);
        }
        return bank;
    }

    private static void wrongArguments() {
        Check.sentence("Promise 8: NoSuchElementException: no such ACCOUNT, MONTH, day");
        PennyBank bank = with("interest 100 when 1;", 240);
        bank.account(0, 0);
        bank.post(1, 0, 0, 480);
        bank.days(5);
        for (int account : Check.beside(0, 1)) {
            Check.noSuch("of account " + account, () -> bank.interest(account, 0, 0));
        }
        for (int month : Check.beside(0, 23)) {
            Check.noSuch("of month " + month, () -> bank.interest(0, month, 0));
        }
        for (int known : Check.beside(0, 5)) {
            Check.noSuch("known on " + known, () -> bank.interest(0, 0, known));
        }
        Check.due("account 0, month 0, known 0", bank.interest(0, 0, 0), 1);
        Check.due("account 1, month 23, known 5", bank.interest(1, 23, 5), 2);
        bank.days(1);
        Check.due("known 6, then", bank.interest(1, 0, 6), 2);
    }

    private static PennyBank lessOn(int day) {
        PennyBank bank = with("interest 100 when 1;", 24000);
        bank.days(100);
        bank.post(0, 0, day, -12000);
        bank.post(0, 0, day + 1, 12000);
        return bank;
    }

    private static void eachDayOfTheMonthCounts() {
        Check.sentence("Terms: the BASE is the least BALANCE of its days' ends");
        for (int day = 30; day < 60; day++) {
            Check.due("less on day " + day, lessOn(day).interest(0, 1, 100), 50);
        }
        PennyBank bank = with("interest 100 when 1;", 24000);
        bank.post(0, 0, 0, -24000);
        bank.post(0, 0, 0, 24000);
        Check.due("a day's end alone counts", bank.interest(0, 0, 0), 100);
    }

    private static void dayBesideTheMonth() {
        Check.sentence("Terms: the least BALANCE of its days' ends (30 a MONTH)");
        Check.due("less on the day ahead", lessOn(29).interest(0, 1, 100), 100);
        Check.due("it is the last of the month ahead", lessOn(29).interest(0, 0, 100), 50);
        Check.due("less on the day behind", lessOn(60).interest(0, 1, 100), 100);
        Check.due("it is the first of the next month", lessOn(60).interest(0, 2, 100), 50);
        PennyBank bank = with("interest 100 when 1;", 0);
        Check.passTo(bank, 719);
        bank.post(0, 0, 690, 240);
        Check.due("from the last month's first day on", bank.interest(0, 23, 719), 1);
        bank.post(0, 0, 719, -1);
        Check.due("less on the last day of all", bank.interest(0, 23, 719), 0);
        bank.post(0, 0, 689, 480);
        Check.due("more from the day ahead on", bank.interest(0, 23, 719), 2);
        Check.due("which is no month's first", bank.interest(0, 22, 719), 0);
    }

    private static void earlierInterestIsInIt() {
        Check.sentence("Terms: (INTEREST of earlier MONTHS is in it)");
        PennyBank bank = with("interest 100 when 1;", 478);
        int[] due = {1, 1, 2, 2};
        for (int month = 0; month < due.length; month++) {
            Check.due("month " + month, bank.interest(0, month, 0), due[month]);
        }
        PennyBank less = with("interest 100 when 1;", 477);
        int[] dueOfLess = {1, 1, 1, 2};
        for (int month = 0; month < dueOfLess.length; month++) {
            Check.due("of less, month " + month, less.interest(0, month, 0), dueOfLess[month]);
        }
    }

    private static void wholePounds() {
        Check.sentence("Terms: cut to whole 240s");
        int[][] due = {{240, 1}, {479, 1}, {480, 2}, {719, 2}, {720, 3}, {99839, 415}, {99840, 416}, {100000, 416}};
        for (int[] row : due) {
            Check.due("of " + row[0], with("interest 100 when 1;", row[0]).interest(0, 0, 0), row[1]);
        }
    }

    private static void below240() {
        Check.sentence("Terms: below 240 there is none");
        Check.due("of none", with("interest 100 when 1;", 0).interest(0, 0, 0), 0);
        Check.due("of 239", with("interest 100 when 1;", 239).interest(0, 0, 0), 0);
        Check.due("of 240", with("interest 100 when 1;", 240).interest(0, 0, 0), 1);
        for (int debt : new int[] {1, 239, 240, 241, 100000}) {
            PennyBank bank = with("interest 100 when 1;", 0);
            bank.post(0, 0, 0, -debt);
            Check.due("of a debt of " + debt, bank.interest(0, 0, 0), 0);
            Check.due("a debt of " + debt + " stays", bank.balance(0, 719, 0), -debt);
        }
    }

    private static void hundredths() {
        Check.sentence("Terms: else BASE / 240 * RATE / 100, cut");
        int[][] due = {{1, 99, 0}, {1, 100, 1}, {2, 49, 0}, {2, 50, 1}, {3, 33, 0}, {3, 34, 1}, {3, 66, 1},
            {3, 67, 2}, {100, 1, 1}, {99, 1, 0}, {416, 0, 0}, {416, 1, 4}, {416, 100, 416}, {199, 1, 1}};
        for (int[] row : due) {
            PennyBank bank = with("interest " + row[1] + " when 1;", row[0] * 240);
            Check.due(row[0] + " at " + row[1], bank.interest(0, 0, 0), row[2]);
        }
    }

    private static void textOfTheLastDay() {
        Check.sentence("Terms: The RATE: of the text in force on the MONTH's last day");
        for (int month = 0; month < 24; month++) {
            PennyBank bank = with("", 240);
            int last = 30 * month + 29;
            Check.text(bank, "interest 100 when 1;", last);
            Check.due("from day " + last, bank.interest(0, month, 0), 1);
            if (month > 0) {
                Check.due("the month ahead, from day " + last, bank.interest(0, month - 1, 0), 0);
                PennyBank later = with("", 240);
                Check.text(later, "interest 100 when 1;", last - 29);
                Check.due("the month ahead, from day " + (last - 29), later.interest(0, month - 1, 0), 0);
                Check.due("the month, from its first day", later.interest(0, month, 0), 1);
            }
        }
    }

    private static void theFirstLineNotZero() {
        Check.sentence("Terms: the first line  interest N when E  whose E is not 0: N");
        Check.due("the first of two", with("interest 1 when 1; interest 2 when 1;", 24000).interest(0, 0, 0), 1);
        Check.due("0 is passed by", with("interest 1 when 0; interest 2 when 1;", 24000).interest(0, 0, 0), 2);
        Check.due("-1 is not 0", with("interest 1 when 0-1; interest 2 when 1;", 24000).interest(0, 0, 0), 1);
        Check.due("2 is not 0", with("interest 1 when 2; interest 2 when 1;", 24000).interest(0, 0, 0), 1);
        Check.due("a line of 0 counts", with("interest 0 when 1; interest 2 when 1;", 24000).interest(0, 0, 0), 0);
        Check.due("no limit's line", with("limit 9 when 1; interest 2 when 1;", 24000).interest(0, 0, 0), 2);
        String sixteen = "interest 1 when 0;".repeat(15) + "interest 7 when 1;";
        Check.due("the 16th", with(sixteen, 24000).interest(0, 0, 0), 7);
    }

    private static void zeroWithoutOne() {
        Check.sentence("Terms: 0 without one");
        PennyBank bank = new PennyBank();
        bank.account(0, 0);
        bank.post(0, 0, 0, 24000);
        Check.due("no text", bank.interest(0, 0, 0), 0);
        Check.due("an empty text", with("", 24000).interest(0, 0, 0), 0);
        Check.due("limits alone", with("limit 9 when 1;", 24000).interest(0, 0, 0), 0);
        Check.due("zeros alone", with("interest 9 when 0; interest 8 when 1-1;", 24000).interest(0, 0, 0), 0);
        Check.due("one", with("interest 9 when 1;", 24000).interest(0, 0, 0), 9);
    }

    /** Whether a test is not 0 for a club of 2639 that was opened on day 7. */
    private static void tells(String test, int month, boolean holds) {
        PennyBank bank = new PennyBank();
        bank.days(7);
        bank.account(2, 0);
        bank.post(0, 0, 0, 2639);
        Check.due("<" + test + ">", Check.text(bank, "interest 100 when " + test + ";", 30 * month), 0);
        Check.due(test + " in month " + month, bank.interest(0, month, 7), holds ? 10 : 0);
    }

    private static void wordsOnTheLastDay() {
        Check.sentence("2. TEXTS: kind; age; month: day / 30; day: the day of the MONTH (of interest 29)");
        for (int month = 0; month < 24; month++) {
            tells("day = 29", month, true);
            tells("day = 28", month, false);
            tells("day = 30", month, false);
            tells("month = " + month, month, true);
            tells("month = " + (month + 1), month, false);
            tells("age = " + (30 * month + 22), month, true);
            tells("age = " + (30 * month + 23), month, false);
        }
        tells("kind = 2", 0, true);
        tells("kind = 1", 0, false);
        for (int kind = 0; kind <= 3; kind++) {
            PennyBank bank = new PennyBank();
            bank.account(kind, 0);
            bank.post(0, 0, 0, 240);
            Check.text(bank, "interest 100 when kind = " + kind + ";", 0);
            Check.due("kind " + kind, bank.interest(0, 0, 0), 1);
        }
    }

    private static void baseOfTheMonth() {
        Check.sentence("2. TEXTS: base: BASE / 240 of the MONTH");
        String text = "interest 100 when base = 1; interest 50 when base = 2;";
        Check.due("of 240", with(text, 240).interest(0, 0, 0), 1);
        Check.due("of 479", with(text, 479).interest(0, 0, 0), 1);
        Check.due("of 480", with(text, 480).interest(0, 0, 0), 1);
        Check.due("of 719", with(text, 719).interest(0, 0, 0), 1);
        Check.due("of 720", with(text, 720).interest(0, 0, 0), 0);
        String least = "interest 100 when base = 1;";
        PennyBank bank = with(least, 480);
        Check.due("not the least", bank.interest(0, 0, 0), 0);
        bank.days(29);
        bank.post(0, 0, 29, -240);
        Check.due("the least", bank.interest(0, 0, 29), 1);
    }

    private static void ageAheadOfTheOpening() {
        Check.sentence("2. TEXTS: age: how many days since the ACCOUNT was opened");
        int[][] due = {{28, 1}, {29, 0}, {30, -1}, {59, -30}};
        for (int[] row : due) {
            PennyBank bank = new PennyBank();
            bank.days(row[0]);
            bank.account(0, 0);
            bank.post(0, 0, 0, 240);
            Check.text(bank, "interest 100 when age + 40 = " + (40 + row[1]) + ";", 0);
            Check.due("opened on day " + row[0], bank.interest(0, 0, row[0]), 1);
        }
    }

    private static void lessAndEqual() {
        Check.sentence("2. TEXTS: <, = tell 1 or 0");
        for (int left = 0; left <= 2; left++) {
            tells(left + " < 1", 0, left < 1);
            tells(left + " = 1", 0, left == 1);
            tells("(" + left + " < 1) = " + (left < 1 ? 1 : 0), 0, true);
            tells("(" + left + " = 1) = " + (left == 1 ? 1 : 0), 0, true);
            tells("0 - " + left + " < 0 - 1", 0, left > 1);
        }
        tells("99998 < 99999", 0, true);
        tells("99999 < 99999", 0, false);
        tells("99999 = 99999", 0, true);
        tells("99998 = 99999", 0, false);
        tells("1 + 2 < 2 + 2", 0, true);
        tells("2 + 2 < 2 + 2", 0, false);
        tells("4 - 1 = 1 + 2", 0, true);
    }

    private static void bothSidesNotZero() {
        Check.sentence("2. TEXTS: \"and\": 1 if both sides are not 0");
        int[] sides = {0, 1, 2};
        for (int left : sides) {
            for (int right : sides) {
                boolean both = left != 0 && right != 0;
                tells(left + " and " + right, 0, both);
                tells("(" + left + " and " + right + ") = " + (both ? 1 : 0), 0, true);
                tells("0 - " + left + " and 0 - " + right, 0, both);
                tells(left + " < 1 and " + right, 0, left < 1 && right != 0);
                tells(left + " and " + right + " < 1", 0, left != 0 && right < 1);
                tells(left + " = 1 and " + right, 0, left == 1 && right != 0);
                tells("1 and " + left + " and " + right, 0, both);
                tells(left + " and 1 and " + right, 0, both);
                tells(left + " and " + right + " and 1", 0, both);
            }
        }
        tells("1 - 1 and 1", 0, false);
        tells("2 - 1 and 3", 0, true);
        tells("(2) = 2", 0, true);
        tells("(2 and 1 = 1) = 1", 0, true);
    }

    private static void sumsOfParts() {
        Check.sentence("2. TEXTS: SUM: PART { + or - PART }; PART: ( E )");
        tells("3 - 2 - 1", 0, false);
        tells("3 - (2 - 1) = 2", 0, true);
        tells("3 - 2 + 1 = 2", 0, true);
        tells("3 - (2 + 1)", 0, false);
        tells("1 - 2 = 0 - 1", 0, true);
        tells("5 - 1 = 4 and 5 = 5", 0, true);
        tells("5 - 1 < 5 and 2 = 2", 0, true);
        tells("0 - 1 and 2 = 2", 0, true);
        tells("7 - (1 < 2) = 6", 0, true);
        tells("7 - (2 < 1) = 7", 0, true);
        tells("(1 - 3) + 2", 0, false);
        tells("9 - ((1)) - (((2))) = 6", 0, true);
        tells("((1 = 1) + (2 = 2)) + ((3 = 3) + (4 = 5)) = 3", 0, true);
        tells("1 - (1 - (1 - (1 - 1))) = 1", 0, true);
        tells("(((0 < 1))) + (1 < 0) = 1", 0, true);
        tells("(0 and 1) + (1) = 1", 0, true);
        tells("(1 and 1) + (0) = 1", 0, true);
    }

    /** The greatest sums that 600 signs can hold: no number wraps round. */
    private static void greatNumbers() {
        Check.sentence("2. TEXTS: NUMBERS (1 to 5 digits), TAPE at most 600 signs");
        tells("1 = 1" + "+99999".repeat(91) + "-99999".repeat(2), 0, false);
        tells("1 < 1" + "+99999".repeat(93), 0, true);
        tells("0" + "-99999".repeat(93) + "< 0", 0, true);
        PennyBank bank = with("interest 100 when 1;", 0);
        for (int i = 0; i < 400; i++) {
            bank.post(0, 0, 0, 100000);
        }
        Check.due("the greatest base", bank.interest(0, 0, 0), 166666);
        Check.due("the next one", bank.interest(0, 1, 0), 167361);
    }
}
