/** Promise 5: feed. */
public final class TapeTest {
    public static void main(String[] args) {
        signsAndOthers();
        highestFirst();
        sixHundredAtMost();
        Check.end();
    }

    private static void signsAndOthers() {
        for (int sign = 0; sign < 256; sign++) {
            PennyBank bank = new PennyBank();
            boolean taken = sign == 10 || sign >= 32 && sign <= 126;
            Check.due("sign " + sign + " in a", bank.feed((long) sign << 56, 0, 0), taken ? 1 : 0);
            Check.due("sign " + sign + " in b", bank.feed(0, (long) sign << 24, 0), taken ? 2 : 0);
            Check.due("sign " + sign + " in c", bank.feed(0, 0, sign), taken ? 3 : 0);
            Check.due("count(6)", bank.count(6), taken ? 3 : 0);
        }
        Check.due("none at all", new PennyBank().feed(0, -1, 0), 0);
    }

    /** Faults tell where the signs stand. */
    private static void highestFirst() {
        for (int from = 0; from < 24; from++) {
            PennyBank bank = new PennyBank();
            StringBuilder text = new StringBuilder(" ".repeat(24));
            text.setCharAt(from, '?');
            Check.feed(bank, text.toString());
            Check.due("a wrong sign at " + from, bank.text(0), 1 + 16 * from);
        }
        PennyBank bank = new PennyBank();
        Check.feed(bank, "lim" + (char) 200 + "it");
        Check.feed(bank, (char) 9 + " 1 when ");
        Check.due("what is left out leaves no gap", Check.text(bank, "1;", 0), 0);
    }

    private static void sixHundredAtMost() {
        PennyBank bank = new PennyBank();
        for (int i = 1; i < 25; i++) {
            Check.due("feed " + i, Check.feed(bank, " ".repeat(24)), 24 * i);
        }
        Check.due("feed to 599", Check.feed(bank, " ".repeat(23)), 599);
        Check.due("one of two", Check.feed(bank, "?!"), 600);
        Check.due("beyond 600", Check.feed(bank, "x"), 600);
        Check.due("count(6)", bank.count(6), 600);
        Check.due("the last sign", bank.text(0), 1 + 16 * 599);
        Check.due("the tape is empty", bank.count(6), 0);
        Check.due("it is fed again", Check.feed(bank, "x"), 1);
    }
}
