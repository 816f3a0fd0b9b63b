import java.util.NoSuchElementException;
import java.util.function.IntSupplier;

/** Counts answers that are not as due; each test ends with end(). */
final class Check {
    private static int wrong = 0;
    private static int asked = 0;
    private static String sentence = "";

    private Check() {
    }

    /** From here on it is this sentence of the document that is looked at. */
    static void sentence(String told) {
        sentence = "[" + told + "] ";
    }

    /** Ints beside a range: those next to it, and the least and the greatest of all. */
    static int[] beside(int least, int most) {
        return new int[] {Integer.MIN_VALUE, least - 1, most + 1, Integer.MAX_VALUE};
    }

    static void due(String call, long got, long want) {
        asked++;
        if (got != want) {
            wrong++;
            System.out.println(sentence + call + " answered " + got + ", due is " + want);
        }
    }

    static void due(String call, boolean got, boolean want) {
        due(call, got ? 1 : 0, want ? 1 : 0);
    }

    static void noSuch(String call, IntSupplier supplier) {
        asked++;
        try {
            int got = supplier.getAsInt();
            wrong++;
            System.out.println(sentence + call + " answered " + got + ", due is NoSuchElementException");
        } catch (NoSuchElementException e) {
            return;
        }
    }

    /** Feeds a text of signs 1 to 255; answers what the last feed() did. */
    static int feed(PennyBank bank, String text) {
        int signs = bank.count(6);
        for (int from = 0; from < text.length(); from += 24) {
            signs = bank.feed(eight(text, from), eight(text, from + 8), eight(text, from + 16));
        }
        return signs;
    }

    static long eight(String text, int from) {
        long bytes = 0;
        for (int i = from; i < from + 8; i++) {
            bytes = bytes << 8 | (i < text.length() ? text.charAt(i) & 255 : 0);
        }
        return bytes;
    }

    static int text(PennyBank bank, String text, int day) {
        feed(bank, text);
        return bank.text(day);
    }

    static PennyBank withAccounts(int accounts) {
        PennyBank bank = new PennyBank();
        for (int i = 0; i < accounts; i++) {
            bank.account(0, 0);
        }
        return bank;
    }

    /** Lets days pass till NOW is a day. */
    static void passTo(PennyBank bank, int day) {
        for (int left = day - bank.count(2); left > 0; left -= 200) {
            bank.days(Math.min(left, 200));
        }
        due("NOW", bank.count(2), day);
    }

    static void end() {
        System.out.println(asked + " answers looked at, " + wrong + " not as due");
        if (wrong != 0 || asked == 0) {
            System.exit(1);
        }
    }
}
