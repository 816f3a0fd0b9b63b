/** The boundary cases that the document names of text, its lines and its faults. */
public final class EdgesOfTextTest {
    private static final String LINE = "limit 1 when 1;";

    public static void main(String[] args) {
        emptyTexts();
        whatCanStandThere();
        sixteenLines();
        numbersOfInterest();
        numbersOfLimit();
        fiveWithinOneAnother();
        aPartAtFive();
        withinIsOfEachPart();
        oneComparison();
        theEndIsAToken();
        theFirstFromTheLeft();
        theLeast();
        noSuchDay();
        notAboveTheLatest();
        eightAreThere();
        whatIsRefusedIsNoText();
        eachTextIsReadAnew();
        inForceFromADayOn();
        tillTheNextOneKnown();
        eightInForce();
        Check.end();
    }

    private static void reads(String text, int fault) {
        PennyBank bank = new PennyBank();
        Check.due("<" + text + ">", Check.text(bank, text, 0), fault);
        Check.due("<" + text + "> count(3)", bank.count(3), fault == 0 ? 1 : 0);
    }

    private static void emptyTexts() {
        Check.sentence("2. TEXTS: TEXT: 16 lines at most (none is fine)");
        reads("", 0);
        reads(" ", 0);
        reads("\n", 0);
        reads(" ".repeat(600), 0);
        reads("1", 1);
        reads(" 1", 1 + 16);
        reads(" ".repeat(599) + "1", 1 + 16 * 599);
    }

    /** Each token at each place: those that can stand there let what is behind them be wrong. */
    private static void whatCanStandThere() {
        Check.sentence("2. TEXTS: FAULTS: 1 it is none, or can't stand there");
        String[] tokens = {"interest", "limit", "when", "and", "kind", "base", "age", "month", "day", "7", "(", ")",
            "<", "=", "+", "-", ";", "other", "?"};
        String parts = " kind base age month day 7 ( ";
        String[][] places = {
            {"", " interest limit "},
            {"limit", " 7 "},
            {"interest", " 7 "},
            {"limit 1", " when "},
            {"limit 1 when", parts},
            {"limit 1 when 1", " and < = + - ; "},
            {"limit 1 when 1 +", parts},
            {"limit 1 when 1 -", parts},
            {"limit 1 when 1 <", parts},
            {"limit 1 when 1 =", parts},
            {"limit 1 when 1 and", parts},
            {"limit 1 when 1 < 1", " and + - ; "},
            {"limit 1 when 1 = 1 + 1", " and + - ; "},
            {"limit 1 when 1 = 1 and 1", " and < = + - ; "},
            {"limit 1 when kind", " and < = + - ; "},
            {"limit 1 when (", parts},
            {"limit 1 when (1", " and < = + - ) "},
            {"limit 1 when (1 < 1", " and + - ) "},
            {"limit 1 when (1 < 1)", " and < = + - ; "},
            {"limit 1 when 1 < (1", " and < = + - ) "},
            {"limit 1 when 1 < (1)", " and + - ; "},
            {"limit 1 when 1;", " interest limit "},
        };
        for (String[] place : places) {
            int length = place[0].length();
            for (String token : tokens) {
                boolean stands = place[1].contains(" " + token + " ");
                String text = place[0] + " " + token + " ?";
                reads(text, 1 + 16 * (stands ? text.length() - 1 : length + 1));
            }
        }
    }

    private static void sixteenLines() {
        Check.sentence("2. TEXTS: 16 lines at most; 5 a 17th line (at its first token)");
        String other = "interest 1 when 1;";
        reads(LINE.repeat(15), 0);
        reads(LINE.repeat(16), 0);
        reads(other.repeat(16), 0);
        reads((LINE + other).repeat(8), 0);
        reads((LINE + other).repeat(8) + "\n \n", 0);
        reads(LINE.repeat(17), 5 + 16 * 240);
        reads(other.repeat(17), 5 + 16 * 288);
        reads(LINE.repeat(16) + other, 5 + 16 * 240);
        reads((LINE + other).repeat(8) + "  " + LINE, 5 + 16 * 266);
        reads(LINE.repeat(18), 5 + 16 * 240);
        reads(LINE.repeat(16) + "limit", 5 + 16 * 240);
        reads(LINE.repeat(16) + "interest", 5 + 16 * 240);
    }

    private static void numbersOfInterest() {
        Check.sentence("2. TEXTS: N of interest 0 .. 100; 4 a line's NUMBER that is not as told");
        reads("interest 0 when 1;", 0);
        reads("interest 99 when 1;", 0);
        reads("interest 100 when 1;", 0);
        reads("interest 101 when 1;", 4 + 16 * 9);
        reads("interest 00100 when 1;", 0);
        reads("interest 00101 when 1;", 4 + 16 * 9);
        reads("interest 99999 when 1;", 4 + 16 * 9);
        reads("interest 100000 when 1;", 1 + 16 * 9);
        reads("interest  101", 4 + 16 * 10);
        reads(LINE.repeat(15) + "interest 101 when 1;", 4 + 16 * 234);
        reads("interest 1 when 101;", 0);
        reads("interest 1 when 99999;", 0);
    }

    private static void numbersOfLimit() {
        Check.sentence("2. TEXTS: N of limit 0 .. 99999");
        reads("limit 0 when 1;", 0);
        reads("limit 101 when 1;", 0);
        reads("limit 99998 when 1;", 0);
        reads("limit 99999 when 1;", 0);
        reads("limit 100000 when 1;", 1 + 16 * 6);
        reads("interest 1 when 1; limit 101 when 1;", 0);
        reads("limit 1 when 1; interest 101 when 1;", 4 + 16 * 25);
    }

    private static void fiveWithinOneAnother() {
        Check.sentence("2. TEXTS: PART: 5 within one another");
        reads("limit 1 when (((1)));", 0);
        reads("limit 1 when ((((1))));", 0);
        reads("limit 1 when ((((kind))));", 0);
        reads("limit 1 when ((((1<2 and 3=4+5))));", 0);
        reads("limit 1 when (((((1)))));", 5 + 16 * 18);
        reads("limit 1 when ( ( ( ( ( 1 ) ) ) ) );", 5 + 16 * 23);
        reads("limit 1 when ((((((1))))));", 5 + 16 * 18);
        reads("interest 1 when ((((1))));", 0);
        reads("interest 1 when (((((1)))));", 5 + 16 * 21);
    }

    private static void aPartAtFive() {
        Check.sentence("2. TEXTS: 5 a PART within 5 others");
        String[] parts = {"0", "99999", "kind", "base", "age", "month", "day", "(1)"};
        for (String part : parts) {
            reads("limit 1 when ((((" + part.replace("(1)", "1") + "))));", 0);
            reads("limit 1 when (((((" + part + ")))));", 5 + 16 * 18);
        }
        String[] others = {"and", "when", "limit", "interest", "+", "-", "<", "=", ";", ")", "123456", "?", ""};
        for (String other : others) {
            reads("limit 1 when (((((" + other, 1 + 16 * 18);
        }
    }

    private static void withinIsOfEachPart() {
        Check.sentence("2. TEXTS: 5 a PART within 5 others (others that are closed don't count)");
        reads("limit 1 when ((((1))))+((((1))))-((((1))));", 0);
        reads("limit 1 when ((((1))))<((((1))));", 0);
        reads("limit 1 when ((((1))))and((((1))));", 0);
        reads("limit 1 when ((((1)+(1))+1)+1);", 0);
        reads("limit 1 when ((((1)))+(((1))));", 0);
        reads("limit 1 when ((((1)))+((((1)))));", 5 + 16 * 26);
        reads("limit 1 when ((((1))));limit 1 when ((((1))));", 0);
        reads("limit 1 when ((((1))));limit 1 when (((((1)))));", 5 + 16 * 41);
    }

    private static void oneComparison() {
        Check.sentence("2. TEXTS: TEST: SUM [ < SUM or = SUM ]");
        reads("limit 1 when 1;", 0);
        reads("limit 1 when 1<2;", 0);
        reads("limit 1 when 1<2<3;", 1 + 16 * 16);
        reads("limit 1 when 1=2<3;", 1 + 16 * 16);
        reads("limit 1 when 1<2=3;", 1 + 16 * 16);
        reads("limit 1 when 1=2+3=4;", 1 + 16 * 18);
        reads("limit 1 when 1<2 and 3<4;", 0);
        reads("limit 1 when 1<2 and 3<4<5;", 1 + 16 * 24);
        reads("limit 1 when (1<2)<3;", 0);
        reads("limit 1 when (1<2)<3<4;", 1 + 16 * 20);
        reads("limit 1 when 1<(2<3);", 0);
        reads("limit 1 when 1<(2<3)<4;", 1 + 16 * 20);
        reads("limit 1 when 1<2;limit 1 when 1<2;", 0);
        reads("limit 1 when 1==2;", 1 + 16 * 15);
    }

    private static void theEndIsAToken() {
        Check.sentence("2. TEXTS: the end being one at the text's length");
        String text = "limit 1 when ( 1 )";
        int[] lengths = {5, 6, 7, 8, 12, 13, 14, 15, 16, 17, 18};
        for (int length : lengths) {
            reads(text.substring(0, length), 1 + 16 * length);
            reads(text.substring(0, length) + " \n ", 1 + 16 * (length + 3));
        }
        reads("limit 1 when 1+", 1 + 16 * 15);
        reads("limit 1 when 1<", 1 + 16 * 15);
        reads("limit 1 when 1 and", 1 + 16 * 18);
        reads("limit 1 when 1" + "+1".repeat(292) + "+", 1 + 16 * 599);
        reads("limit 1 when 1" + "+1".repeat(293), 1 + 16 * 600);
        reads("limit 1 when 1;" + " ".repeat(580) + "limit", 1 + 16 * 600);
        reads("limit 1 when 12" + "+1".repeat(292) + ";", 0);
    }

    private static void theFirstFromTheLeft() {
        Check.sentence("2. TEXTS: FAULTS: of the first token from the left that is wrong");
        reads("limit 1 when ? interest 101 when (((((1", 1 + 16 * 13);
        reads("interest 101 when ?;", 4 + 16 * 9);
        reads("limit 1 when (((((1; interest 101 when ?", 5 + 16 * 18);
        reads(LINE.repeat(16) + "interest 101 when ?", 5 + 16 * 240);
        reads(LINE.repeat(15) + "limit 1 when ?;" + LINE, 1 + 16 * 238);
        reads("limit 1 when 1 1 ?", 1 + 16 * 15);
    }

    private static void theLeast() {
        Check.sentence("2. TEXTS: FAULTS: of the first token .. the least");
        reads(LINE.repeat(16) + "?", 1 + 16 * 240);
        reads(LINE.repeat(16) + "when", 1 + 16 * 240);
        reads(LINE.repeat(16) + "1", 1 + 16 * 240);
        reads(LINE.repeat(16) + "interesta", 1 + 16 * 240);
        reads(LINE.repeat(16) + "interest", 5 + 16 * 240);
        reads("limit 1 when (((((and", 1 + 16 * 18);
        reads("limit 1 when (((((day", 5 + 16 * 18);
        reads("interest 100000", 1 + 16 * 9);
        reads("interest 10000", 4 + 16 * 9);
    }

    private static void noSuchDay() {
        Check.sentence("Promise 6: -1: no such day");
        PennyBank bank = new PennyBank();
        for (int day : Check.beside(0, 719)) {
            Check.due("text(" + day + ")", Check.text(bank, LINE, day), -1);
            Check.due("the tape is empty then, too", bank.count(6), 0);
            Check.due("a fault of day " + day, Check.text(bank, "?", day), -1);
        }
        Check.due("no text is there", bank.count(3), 0);
        Check.due("text(0)", Check.text(bank, LINE, 0), 0);
        Check.due("text(719)", Check.text(bank, LINE, 719), 0);
        Check.due("two are there", bank.count(3), 2);
        Check.due("a day above NOW is fine, and so is one below", bank.count(2), 0);
    }

    private static void notAboveTheLatest() {
        Check.sentence("Promise 6: -1: not above that of the latest one");
        PennyBank bank = new PennyBank();
        bank.days(200);
        Check.due("the first, of day 0", Check.text(bank, LINE, 0), 0);
        Check.due("the same day", Check.text(bank, LINE, 0), -1);
        Check.due("the day above", Check.text(bank, LINE, 1), 0);
        Check.due("day 100", Check.text(bank, LINE, 100), 0);
        Check.due("the day below", Check.text(bank, LINE, 99), -1);
        Check.due("that day", Check.text(bank, LINE, 100), -1);
        Check.due("the tape is empty then, too", bank.count(6), 0);
        Check.due("a fault of that day", Check.text(bank, "?", 100), -1);
        Check.due("a fault of the day above", Check.text(bank, "?", 101), 1);
        Check.due("the day above that", Check.text(bank, LINE, 101), 0);
        Check.due("the last day", Check.text(bank, LINE, 719), 0);
        Check.due("the last day again", Check.text(bank, LINE, 719), -1);
        Check.due("five are there", bank.count(3), 5);
    }

    private static void eightAreThere() {
        Check.sentence("Promise 6: -1: 8 are there");
        PennyBank bank = new PennyBank();
        for (int i = 0; i < 7; i++) {
            Check.due("text of day " + i, Check.text(bank, LINE, i), 0);
            Check.due("a fault is none of them", Check.text(bank, "?", 700), 1);
            Check.due("nor is what is refused", Check.text(bank, LINE, i), -1);
        }
        Check.due("seven", bank.count(3), 7);
        Check.due("the 8th", Check.text(bank, LINE, 7), 0);
        Check.due("eight", bank.count(3), 8);
        Check.due("a 9th", Check.text(bank, LINE, 8), -1);
        Check.due("the tape is empty then, too", bank.count(6), 0);
        Check.due("a 9th with a fault", Check.text(bank, "?", 8), -1);
        Check.due("a 9th without a sign", bank.text(719), -1);
        Check.due("eight again", bank.count(3), 8);
    }

    private static void whatIsRefusedIsNoText() {
        Check.sentence("Promise 6: its FAULT; -1 (no text then)");
        PennyBank bank = new PennyBank();
        bank.account(0, 0);
        bank.post(0, 0, 0, 100);
        Check.text(bank, "limit 0 when 1; ?", 0);
        Check.due("no limit by a fault", bank.may(0, 1, 1), 0);
        Check.text(bank, "limit 5 when 1;", 0);
        Check.due("a limit", bank.may(0, 6, 1), 5);
        Check.text(bank, "limit 0 when 1;", 0);
        Check.due("the same by what is refused", bank.may(0, 5, 1), 0);
        Check.text(bank, "?", 719);
        Check.due("a fault's day does not count", Check.text(bank, LINE, 1), 0);
    }

    private static void eachTextIsReadAnew() {
        Check.sentence("2. TEXTS: what reads it takes it (nothing is left of the texts ahead)");
        PennyBank bank = new PennyBank();
        bank.account(0, 0);
        bank.post(0, 0, 0, 100);
        Check.due("16 lines", Check.text(bank, "limit 0 when 1;".repeat(16), 0), 0);
        Check.due("its limit", bank.may(0, 1, 1), 5);
        Check.due("16 lines more", Check.text(bank, "limit 0 when 1;".repeat(16), 1), 0);
        Check.due("17 lines", Check.text(bank, LINE.repeat(17), 2), 5 + 16 * 240);
        Check.due("4 open", Check.text(bank, "limit 1 when ((((", 2), 1 + 16 * 17);
        Check.due("4 more", Check.text(bank, "limit 1 when ((((1))));", 2), 0);
        Check.due("interest alone", Check.text(bank, "interest", 3), 1 + 16 * 8);
        Check.due("a number alone", Check.text(bank, "7", 3), 1);
        Check.due("a comparison", Check.text(bank, "limit 1 when 1<", 3), 1 + 16 * 15);
        Check.due("one more", Check.text(bank, "limit 1 when 1<2;", 3), 0);
        Check.due("nothing", bank.text(4), 0);
        bank.days(4);
        Check.due("no limit by nothing", bank.may(0, 100, 1), 0);
        Check.due("a limit", Check.text(bank, "limit 1 when 1 and 1;", 5), 0);
        Check.due("a shorter one", Check.text(bank, "limit 2 when 1;", 6), 0);
        bank.days(2);
        Check.due("2 by the shorter one", bank.may(0, 2, 1), 0);
        Check.due("3 by the shorter one", bank.may(0, 3, 1), 5);
    }

    private static void inForceFromADayOn() {
        Check.sentence("2. TEXTS: A text is in force from a day on");
        PennyBank bank = new PennyBank();
        bank.account(0, 0);
        bank.post(0, 0, 0, 100);
        Check.text(bank, "limit 0 when 1;", 4);
        bank.days(3);
        Check.due("the day ahead", bank.may(0, 1, 1), 0);
        bank.days(1);
        Check.due("its day", bank.may(0, 1, 1), 5);
        bank.days(1);
        Check.due("the day behind", bank.may(0, 1, 1), 5);
        Check.text(bank, "limit 1 when 1;", 6);
        Check.due("the day ahead of the next", bank.may(0, 1, 1), 5);
        bank.days(1);
        Check.due("the next one's day", bank.may(0, 1, 1), 0);
        Check.text(bank, "limit 0 when 1;", 7);
        bank.days(1);
        Check.due("a third", bank.may(0, 1, 1), 5);
        bank.days(200);
        Check.due("on and on", bank.may(0, 1, 1), 5);
    }

    private static void tillTheNextOneKnown() {
        Check.sentence("2. TEXTS: till the next one known by then is; known from the day NOW on which it comes");
        PennyBank bank = new PennyBank();
        bank.account(0, 0);
        bank.post(0, 0, 0, 24000);
        Check.text(bank, "interest 10 when 1;", 0);
        bank.days(50);
        Check.text(bank, "interest 20 when 1;", 29);
        bank.days(1);
        Check.text(bank, "interest 30 when 1;", 59);
        bank.days(9);
        int[][] due = {{49, 10, 10}, {50, 20, 20}, {51, 20, 30}, {60, 20, 30}};
        for (int[] row : due) {
            Check.due("month 0 as known on " + row[0], bank.interest(0, 0, row[0]), row[1]);
            Check.due("month 1 as known on " + row[0], bank.interest(0, 1, row[0]), row[2]);
        }
        Check.due("the balance as known on 49", bank.balance(0, 60, 49), 24020);
        Check.due("the balance as known on 50", bank.balance(0, 60, 50), 24040);
        Check.due("the balance as known on 51", bank.balance(0, 60, 51), 24050);
    }

    private static void eightInForce() {
        Check.sentence("2. TEXTS: A text, 8 at most, is in force");
        PennyBank bank = new PennyBank();
        bank.account(0, 0);
        bank.post(0, 0, 0, 100);
        for (int i = 0; i < 8; i++) {
            Check.text(bank, "limit " + (i + 1) + " when 1;", i);
        }
        for (int i = 0; i < 10; i++) {
            int limit = Math.min(i + 1, 8);
            Check.due("the limit of day " + i, bank.may(0, limit, 1), 0);
            Check.due("above the limit of day " + i, bank.may(0, limit + 1, 1), 5);
            bank.days(1);
        }
        Check.due("interest with eight", bank.interest(0, 23, 0), 0);
    }
}
