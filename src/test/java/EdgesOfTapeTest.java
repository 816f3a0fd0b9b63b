/** The boundary cases that the document names of feed, the tape and its tokens. */
public final class EdgesOfTapeTest {
    public static void main(String[] args) {
        nothingComes();
        othersAreLeftOut();
        highestFirst();
        sixHundredSigns();
        whatIsLeftOutTakesNoRoom();
        whatReadsItTakesIt();
        blanks();
        wordsOfEight();
        wordsThatAreOneLetterOff();
        numbersOfFive();
        letterBehindNumber();
        asLongAsCanBe();
        signsThatAreNone();
        Check.end();
    }

    private static void nothingComes() {
        Check.sentence("Promise 5: how many there are");
        PennyBank bank = new PennyBank();
        Check.due("feed of nothing", bank.feed(0, 0, 0), 0);
        Check.due("feed of 24", bank.feed(0x3131313131313131L, 0x3131313131313131L, 0x3131313131313131L), 24);
        Check.due("feed of nothing then", bank.feed(0, 0, 0), 24);
        Check.due("feed of all bits", bank.feed(-1, -1, -1), 24);
        Check.due("feed of the highest bits", bank.feed(Long.MIN_VALUE, Long.MIN_VALUE, Long.MIN_VALUE), 24);
        Check.due("feed of 1", bank.feed(0, 0, '1'), 25);
        Check.due("count(6)", bank.count(6), 25);
    }

    private static void othersAreLeftOut() {
        Check.sentence("Promise 5: others than 10 and 32 .. 126 are left out");
        int[] signs = {0, 9, 10, 11, 13, 31, 32, 33, 125, 126, 127, 128, 138, 160, 254, 255};
        for (int sign : signs) {
            PennyBank bank = new PennyBank();
            boolean taken = sign == 10 || sign >= 32 && sign <= 126;
            for (int place = 0; place < 24; place++) {
                long[] eights = new long[3];
                eights[place / 8] = (long) sign << 56 - 8 * (place % 8);
                Check.due("sign " + sign + " at byte " + place, bank.feed(eights[0], eights[1], eights[2]),
                    taken ? place + 1 : 0);
            }
        }
    }

    private static void highestFirst() {
        Check.sentence("Promise 5: the bytes of a, b, c, of each the highest first");
        PennyBank bank = new PennyBank();
        bank.feed(0x6c696d6974203131L, 0x207768656e206461L, 0x793d30303030343bL);
        Check.due("limit 11 when day=00004;", bank.text(0), 0);
        bank.account(0, 0);
        bank.days(4);
        bank.post(0, 0, 4, 100);
        Check.due("its limit", bank.may(0, 11, 1), 0);
        Check.due("above its limit", bank.may(0, 12, 1), 5);
    }

    private static PennyBank filled(int signs) {
        PennyBank bank = new PennyBank();
        for (int there = 0; there < signs; there += 24) {
            Check.feed(bank, " ".repeat(Math.min(24, signs - there)));
        }
        Check.due("signs there", bank.count(6), signs);
        return bank;
    }

    private static void sixHundredSigns() {
        Check.sentence("Promise 5: what is beyond 600 is left out");
        String marks = "                       ?";
        PennyBank bank = filled(576);
        Check.due("24 behind 576", Check.feed(bank, marks), 600);
        Check.due("the 24th came", bank.text(0), 1 + 16 * 599);
        bank = filled(577);
        Check.due("24 behind 577", Check.feed(bank, marks), 600);
        Check.due("the 24th did not come", bank.text(0), 0);
        bank = filled(599);
        Check.due("2 behind 599", Check.feed(bank, "?!"), 600);
        Check.due("the first came", bank.text(0), 1 + 16 * 599);
        bank = filled(600);
        Check.due("1 behind 600", Check.feed(bank, "?"), 600);
        Check.due("it did not come", bank.text(0), 0);
        bank = filled(599);
        Check.due("none behind 599", bank.feed(0, 0, 0), 599);
        Check.due("a long text", bank.text(0), 0);
    }

    private static void whatIsLeftOutTakesNoRoom() {
        Check.sentence("Promise 5: others .. are left out");
        PennyBank bank = filled(599);
        Check.due("another and one", Check.feed(bank, "\t" + (char) 127 + "?"), 600);
        Check.due("the one came", bank.text(0), 1 + 16 * 599);
        Check.feed(bank, "li" + (char) 31 + "mit 1 w\rhen 1" + (char) 128 + ";");
        Check.due("15 signs are left", bank.count(6), 15);
        Check.due("others leave no gap", bank.text(0), 0);
    }

    private static void whatReadsItTakesIt() {
        Check.sentence("2. TEXTS: what reads it takes it: it is empty then");
        PennyBank bank = new PennyBank();
        Check.feed(bank, "limit 1 when 1;");
        Check.due("no fault", bank.text(0), 0);
        Check.due("empty behind it", bank.count(6), 0);
        Check.feed(bank, "limit 1 when");
        Check.due("a fault", bank.text(1), 1 + 16 * 12);
        Check.due("empty behind a fault", bank.count(6), 0);
        Check.feed(bank, "limit 1 when 1;");
        Check.due("a wrong day", bank.text(720), -1);
        Check.due("empty behind a wrong day", bank.count(6), 0);
        Check.feed(bank, "limit 1 when 1;");
        Check.due("a day that is not above", bank.text(0), -1);
        Check.due("empty behind it", bank.count(6), 0);
        Check.due("it is fed from the start", Check.feed(bank, "x"), 1);
        Check.due("a fault at the start", bank.text(1), 1);
    }

    private static void reads(String text, int fault) {
        Check.due("<" + text + ">", Check.text(new PennyBank(), text, 0), fault);
    }

    private static void blanks() {
        Check.sentence("2. TEXTS: blanks (10, 32) between where one likes");
        reads("limit 1 when(kind<1)and day=2+3-4;", 0);
        reads(" limit 1 when ( kind < 1 ) and day = 2 + 3 - 4 ; ", 0);
        reads("\nlimit\n1\nwhen\n(\nkind\n<\n1\n)\nand\nday\n=\n2\n;\n", 0);
        reads("limit  \n 1 \n\n when 1 \n ;", 0);
        reads("li mit 1 when 1;", 1);
        reads("limit 1 wh\nen 1;", 1 + 16 * 8);
        reads("limit 1 when 1 1;", 1 + 16 * 15);
        reads("limit 1 when 1\n1;", 1 + 16 * 15);
    }

    private static void wordsOfEight() {
        Check.sentence("2. TEXTS: WORDS (letters a .. z, 8 at most)");
        reads("interest 1 when 1;", 0);
        reads("interesta 1 when 1;", 1);
        reads("interestinterest 1 when 1;", 1);
        reads("interes 1 when 1;", 1);
        reads("limit 1 when abcdefgh;", 1 + 16 * 13);
        reads("limit 1 when abcdefghi;", 1 + 16 * 13);
        reads("limit 1 when kindkind;", 1 + 16 * 13);
        reads("limit 1 when kindkindk;", 1 + 16 * 13);
        reads("limit 1 when 1 interestand 1;", 1 + 16 * 15);
        reads("limit 1 when Kind;", 1 + 16 * 13);
        reads("limit 1 when kinD;", 1 + 16 * 13);
        reads("limit 1 when kindD;", 1 + 16 * 17);
    }

    private static void wordsThatAreOneLetterOff() {
        Check.sentence("2. TEXTS: WORDS (letters a .. z): another WORD can't stand there");
        String[][] places = {{"", "interest", " 1 when 1;"}, {"", "limit", " 1 when 1;"}, {"limit 1 ", "when", " 1;"},
            {"limit 1 when 1 ", "and", " 1;"}, {"limit 1 when ", "kind", ";"}, {"limit 1 when ", "base", ";"},
            {"limit 1 when ", "age", ";"}, {"limit 1 when ", "month", ";"}, {"limit 1 when ", "day", ";"}};
        for (String[] place : places) {
            String word = place[1];
            int fault = 1 + 16 * place[0].length();
            reads(place[0] + word + place[2], 0);
            for (char letter : new char[] {'a', 'z', 'q'}) {
                reads(place[0] + word + letter + place[2], fault);
                reads(place[0] + letter + word + place[2], fault);
                for (int i = 0; i < word.length(); i++) {
                    String other = word.substring(0, i) + letter + word.substring(i + 1);
                    reads(place[0] + other + place[2], other.equals(word) ? 0 : fault);
                }
            }
            reads(place[0] + word.substring(1) + place[2], fault);
            reads(place[0] + word.substring(0, word.length() - 1) + place[2], fault);
        }
    }

    private static void numbersOfFive() {
        Check.sentence("2. TEXTS: NUMBERS (1 to 5 digits), a longer one is none, at its first sign");
        reads("limit 1 when 1;", 0);
        reads("limit 1 when 12345;", 0);
        reads("limit 1 when 99999;", 0);
        reads("limit 1 when 123456;", 1 + 16 * 13);
        reads("limit 1 when 000000;", 1 + 16 * 13);
        reads("limit 1 when 00000;", 0);
        reads("limit 1 when 1234567890123;", 1 + 16 * 13);
        reads("limit 1 when 4294967297;", 1 + 16 * 13);
        reads("limit 00001 when 1;", 0);
        reads("limit 000001 when 1;", 1 + 16 * 6);
        reads("interest 00100 when 1;", 0);
        reads("interest 000100 when 1;", 1 + 16 * 9);
    }

    private static void letterBehindNumber() {
        Check.sentence("2. TEXTS: NUMBERS (a letter may stand right behind)");
        reads("limit 1when 1;", 0);
        reads("limit 1 when 1and 1;", 0);
        reads("limit 1 when 12345and 1;", 0);
        reads("limit 1 when 123456and 1;", 1 + 16 * 13);
        reads("limit1when1and1;", 0);
        reads("limit 1 when 1kind;", 1 + 16 * 14);
    }

    private static void asLongAsCanBe() {
        Check.sentence("2. TEXTS: TOKENS, each as long as can be");
        reads("limitwhen 1 when 1;", 1);
        reads("limit 1 whenkind;", 1 + 16 * 8);
        reads("limit 1 when kindand 1;", 1 + 16 * 13);
        reads("limit 1 when daymonth;", 1 + 16 * 13);
        reads("limit 1 when 1 andday;", 1 + 16 * 15);
        reads("limit 1 when kind and day;", 0);
    }

    /** Each sign between two numbers: it joins them, or is wrong itself, or what is behind it is. */
    private static void signsThatAreNone() {
        Check.sentence("2. TEXTS: the signs ( ) < = + - and the semicolon. All else is none");
        for (char sign = 32; sign <= 126; sign++) {
            boolean joins = "<=+-".indexOf(sign) >= 0;
            boolean blank = sign == ' ' || sign == ';';
            int fault = joins ? 0 : 1 + 16 * (blank ? 17 : 15);
            reads("limit 1 when 1 " + sign + " 1;", fault);
        }
        for (char sign = 33; sign <= 126; sign++) {
            reads(sign + " ", 1);
        }
        reads("limit 1 when (1);", 0);
        reads("limit 1 when [1];", 1 + 16 * 13);
    }
}
