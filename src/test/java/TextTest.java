/** Promise 6: text. */
public final class TextTest {
    public static void main(String[] args) {
        goodTexts();
        tokens();
        whatCantStand();
        numbersOfLines();
        seventeenLines();
        within();
        theEnd();
        daysOfTexts();
        Check.end();
    }

    private static void reads(String text, int fault) {
        PennyBank bank = new PennyBank();
        Check.due("<" + text + ">", Check.text(bank, text, 0), fault);
        Check.due("<" + text + "> count(3)", bank.count(3), fault == 0 ? 1 : 0);
        Check.due("<" + text + "> count(6)", bank.count(6), 0);
    }

    private static void cantStand(String text, int place) {
        reads(text, 1 + 16 * place);
    }

    private static void goodTexts() {
        reads("", 0);
        reads(" \n \n", 0);
        reads("limit 5 when 1;", 0);
        reads("interest 5 when 1;", 0);
        reads("limit5when1;interest6when2;", 0);
        reads("limit\n5\nwhen\n1\n;\n", 0);
        reads("limit 5 when kind+base-age<month and day=(kind);", 0);
        reads("limit 5 when (1<2)<(3=4) and (5 and 6)+7;", 0);
        reads("limit 5 when 1 and 2 and 3 and 1<2 and 3=4;", 0);
    }

    private static void tokens() {
        cantStand("interests 5 when 1;", 0);
        cantStand("limit 5 when1;limit 5 whenkind;", 22);
        cantStand("limit 123456 when 1;", 6);
        cantStand("limit 5 when 000001;", 13);
        cantStand("limit 5 when kindkindkind;", 13);
        cantStand("Limit 5 when 1;", 0);
        cantStand("limit 5 when 1 & 1;", 15);
        cantStand("limit 5 when 1 > 1;", 15);
        cantStand("limit 5 when 1 * 1;", 15);
        cantStand("limit 5 when {1};", 13);
        cantStand("limit 5 when 1, limit 6 when 1;", 14);
        cantStand("lim it 5 when 1;", 0);
        cantStand("timit 5 when 1;", 0);
        cantStand("limix 5 when 1;", 0);
        cantStand("limitz 5 when 1;", 0);
        cantStand("limita 5 when 1;", 0);
        cantStand("limit 5 when 1 2;", 15);
        reads("limit 00005 when 00001;", 0);
        reads("limit 5when 1and 2;", 0);
        reads("limit 5 when kind1;", 1 + 16 * 17);
    }

    private static void whatCantStand() {
        cantStand(";", 0);
        cantStand("when", 0);
        cantStand("5", 0);
        cantStand("limit 5 when 1;;", 15);
        cantStand("limit limit 5 when 1;", 6);
        cantStand("limit -5 when 1;", 6);
        cantStand("limit 5 1;", 8);
        cantStand("limit 5 and 1;", 8);
        cantStand("limit 5 when ;", 13);
        cantStand("limit 5 when -1;", 13);
        cantStand("limit 5 when +1;", 13);
        cantStand("limit 5 when and 1;", 13);
        cantStand("limit 5 when = 1;", 13);
        cantStand("limit 5 when limit;", 13);
        cantStand("limit 5 when 1 limit;", 15);
        cantStand("limit 5 when 1 +;", 16);
        cantStand("limit 5 when 1 and and 1;", 19);
        cantStand("limit 5 when 1 = 2 = 3;", 19);
        cantStand("limit 5 when 1 < 2 = 3;", 19);
        cantStand("limit 5 when 1 = 2 + 1 < 3;", 23);
        cantStand("limit 5 when (1;", 15);
        cantStand("limit 5 when 1);", 14);
        cantStand("limit 5 when ();", 14);
        cantStand("limit 5 when (1))+1;", 16);
        cantStand("limit 5 when 1<2 and (3<4)<5<6;", 28);
        cantStand("limit 5 when (1<2<3);", 17);
        cantStand("limit 5 when 1(2);", 14);
        cantStand("limit 5 when (1)2;", 16);
        reads("limit 5 when (1<2)<(3<4)and(1<2)=1;", 0);
    }

    private static void numbersOfLines() {
        reads("interest 0 when 1;", 0);
        reads("interest 100 when 1;", 0);
        reads("interest 101 when 1;", 4 + 16 * 9);
        reads("interest 99999 when ?", 4 + 16 * 9);
        reads("interest 100000 when 1;", 1 + 16 * 9);
        reads("limit 0 when 1;", 0);
        reads("limit 99999 when 1;", 0);
        reads("limit 100000 when 1;", 1 + 16 * 6);
        reads("limit 101 when 1;interest 101 when 1;", 4 + 16 * 26);
        reads("interest 5 when 101;", 0);
        reads("limit 5 when ?;interest 101 when 1;", 1 + 16 * 13);
    }

    private static void seventeenLines() {
        String line = "limit 1 when 1;";
        reads(line.repeat(16), 0);
        reads(line.repeat(16) + " \n", 0);
        reads(line.repeat(16) + " limit", 5 + 16 * 241);
        reads(line.repeat(16) + "interest 101", 5 + 16 * 240);
        reads(line.repeat(16) + "when", 1 + 16 * 240);
        reads(line.repeat(16) + ";", 1 + 16 * 240);
        reads(line.repeat(16) + "limits", 1 + 16 * 240);
    }

    private static void within() {
        reads("limit 1 when ((((1))));", 0);
        reads("limit 1 when (((((1)))));", 5 + 16 * 18);
        reads("limit 1 when ((((((1))))));", 5 + 16 * 18);
        reads("limit 1 when (((((kind)))));", 5 + 16 * 18);
        reads("limit 1 when ((((()))));", 1 + 16 * 18);
        reads("limit 1 when (((((and", 1 + 16 * 18);
        reads("limit 1 when (((((123456", 1 + 16 * 18);
        reads("limit 1 when (((((", 1 + 16 * 18);
        reads("limit 1 when ((((1))))+((((1))))and((((1))))=1;", 0);
    }

    private static void theEnd() {
        cantStand("limit", 5);
        cantStand("limit  ", 7);
        cantStand("limit 5", 7);
        cantStand("limit 5 when", 12);
        cantStand("limit 5 when 1", 14);
        cantStand("limit 5 when 1 \n", 16);
        cantStand("limit 5 when (1)", 16);
        cantStand("limit 5 when 1; interest", 24);
        cantStand("limit 5 when 1" + " ".repeat(586), 600);
        cantStand("limit 5 when 1" + "+1".repeat(293), 600);
        reads("limit 5 when 12" + "+1".repeat(292) + ";", 0);
    }

    private static void daysOfTexts() {
        PennyBank bank = new PennyBank();
        Check.due("day -1", Check.text(bank, "limit 5 when 1;", -1), -1);
        Check.due("the tape is empty behind a wrong day", bank.count(6), 0);
        Check.due("day 720", Check.text(bank, "limit 5 when 1;", 720), -1);
        Check.due("a wrong day and a fault", Check.text(bank, "limits", 720), -1);
        Check.due("none is there", bank.count(3), 0);
        Check.due("a fault", Check.text(bank, "?", 50), 1);
        Check.due("a day above NOW", Check.text(bank, "limit 5 when 1;", 10), 0);
        Check.due("the same day", Check.text(bank, "limit 6 when 1;", 10), -1);
        Check.due("an earlier day", Check.text(bank, "limit 6 when 1;", 9), -1);
        Check.due("the tape is empty", bank.count(6), 0);
        for (int i = 2; i <= 8; i++) {
            Check.due("text " + i, Check.text(bank, "limit 6 when 1;", 9 + i), 0);
        }
        Check.due("count(3)", bank.count(3), 8);
        Check.due("the 9th", Check.text(bank, "limit 6 when 1;", 700), -1);
        Check.due("the 9th with a fault", Check.text(bank, "limits", 700), -1);
        Check.due("the tape is empty behind the 9th", bank.count(6), 0);
        Check.due("count(3) again", bank.count(3), 8);
    }
}
