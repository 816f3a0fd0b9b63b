import java.util.NoSuchElementException;
import java.util.Random;
import java.util.function.IntSupplier;

/** Random runs of at most 512 calls, each answer held against PlainBank's. */
public final class OracleTest {
    private static final int RUNS = 400;
    private static final int THROWN = Integer.MIN_VALUE + 77;

    private final Random random;
    private final String run;
    private final PennyBank bank = new PennyBank();
    private final PlainBank plain = new PlainBank();
    private int calls = 0;

    private OracleTest(int seed) {
        random = new Random(seed);
        run = "run " + seed + ": ";
    }

    public static void main(String[] args) {
        for (int seed = 0; seed < RUNS; seed++) {
            OracleTest test = new OracleTest(seed);
            test.start();
            int style = seed % 4;
            while (test.calls < 500) {
                test.step(style);
            }
        }
        Check.end();
    }

    private void start() {
        int accounts = 1 + random.nextInt(5);
        for (int i = 0; i < accounts; i++) {
            account(random.nextInt(4), random.nextInt(60));
        }
    }

    private void same(String call, IntSupplier mine, IntSupplier other) {
        calls++;
        Check.due(run + calls + " " + call, answerOf(mine), answerOf(other));
    }

    private static int answerOf(IntSupplier supplier) {
        try {
            return supplier.getAsInt();
        } catch (NoSuchElementException e) {
            return THROWN;
        }
    }

    private void step(int style) {
        int pick = random.nextInt(100);
        if (style == 3) {
            pick = pick < 50 ? 30 : 84 + pick % 16;
        }
        if (pick < 3) {
            account(odd(4), odd(720));
        } else if (pick < 8) {
            days();
        } else if (pick < 28) {
            post();
        } else if (pick < 34) {
            text();
        } else if (pick < 42) {
            balances();
        } else if (pick < 60) {
            drawing();
        } else if (pick < 76) {
            books();
        } else if (pick < 82) {
            nights();
        } else if (pick < 84) {
            int what = odd(8);
            same("count(" + what + ")", () -> bank.count(what), () -> plain.count(what));
        } else if (style != 3 || pick < 96) {
            holdings(style);
        } else {
            text();
        }
    }

    /** Mostly 0 .. bound - 1, now and then a number beside them. */
    private int odd(int bound) {
        int pick = random.nextInt(60);
        return pick == 0 ? -1 : pick == 1 ? bound : pick == 2 ? random.nextInt() : random.nextInt(bound);
    }

    private int someAccount() {
        return odd(plain.savers.size());
    }

    private int someSum() {
        int pick = random.nextInt(6);
        return pick == 0 ? 240 : pick == 1 ? 240 * random.nextInt(20) : pick == 2 ? random.nextInt(100001)
            : pick == 3 ? -random.nextInt(3000) : random.nextInt(900);
    }

    private void account(int kind, int with) {
        same("account(" + kind + ", " + with + ")", () -> bank.account(kind, with), () -> plain.account(kind, with));
    }

    private void days() {
        int n = random.nextInt(3) == 0 ? odd(201) : random.nextInt(20);
        same("days(" + n + ")", () -> bank.days(n), () -> plain.days(n));
    }

    private void post() {
        int account = someAccount();
        int branch = odd(4);
        int day = random.nextBoolean() ? odd(plain.now + 1) : Math.max(0, plain.now - random.nextInt(4));
        int sum = someSum();
        same("post(" + account + ", " + branch + ", " + day + ", " + sum + ")",
            () -> bank.post(account, branch, day, sum), () -> plain.post(account, branch, day, sum));
    }

    private void text() {
        String text = someText();
        for (int from = 0; from < text.length(); from += 24) {
            long a = Check.eight(text, from);
            long b = Check.eight(text, from + 8);
            long c = Check.eight(text, from + 16);
            same("feed of <" + text + ">", () -> bank.feed(a, b, c), () -> plain.feed(a, b, c));
        }
        int latest = plain.texts.isEmpty() ? 0 : plain.texts.get(plain.texts.size() - 1).from();
        int day = random.nextInt(3) == 0 ? odd(720) : latest + random.nextInt(40);
        same("text(" + day + ") of <" + text + ">", () -> bank.text(day), () -> plain.text(day));
    }

    private String someText() {
        StringBuilder text = new StringBuilder();
        int lines = random.nextInt(12) == 0 ? 15 + random.nextInt(4) : random.nextInt(5);
        for (int i = 0; i < lines; i++) {
            boolean ofInterest = random.nextBoolean();
            text.append(ofInterest ? "interest" : "limit").append(blank());
            text.append(random.nextInt(ofInterest ? 104 : 3000)).append(blank()).append("when").append(blank());
            text.append(lines > 9 ? "day" : someTest(random.nextInt(5))).append(";");
        }
        int wrongs = random.nextInt(3) == 0 ? 1 + random.nextInt(2) : 0;
        for (int i = 0; i < wrongs && text.length() > 0; i++) {
            spoil(text, random.nextInt(text.length()));
        }
        return text.toString();
    }

    private void spoil(StringBuilder text, int at) {
        String signs = "()<=+-;0123456789abwkz \n?A&" + (char) 127 + (char) 233;
        switch (random.nextInt(4)) {
            case 0 -> text.deleteCharAt(at);
            case 1 -> text.setCharAt(at, signs.charAt(random.nextInt(signs.length())));
            case 2 -> text.insert(at, signs.charAt(random.nextInt(signs.length())));
            default -> text.setLength(at);
        }
    }

    private String blank() {
        return random.nextInt(8) == 0 ? "\n " : " ";
    }

    private String someTest(int deep) {
        StringBuilder text = new StringBuilder(someComparison(deep));
        while (random.nextInt(3) == 0) {
            text.append(blank()).append("and").append(blank()).append(someComparison(deep));
        }
        return text.toString();
    }

    private String someComparison(int deep) {
        int pick = random.nextInt(4);
        return someSumText(deep) + (pick < 2 ? "" : (pick == 2 ? "<" : " = ") + someSumText(deep));
    }

    private String someSumText(int deep) {
        StringBuilder text = new StringBuilder(somePart(deep));
        while (random.nextInt(3) == 0) {
            text.append(random.nextBoolean() ? " + " : "-").append(somePart(deep));
        }
        return text.toString();
    }

    private String somePart(int deep) {
        String[] words = {"kind", "base", "age", "month", "day"};
        int pick = random.nextInt(10);
        return pick < 4 && deep > 0 ? "(" + someTest(deep - 1) + ")" : pick < 7 ? words[random.nextInt(5)]
            : String.valueOf(random.nextInt(pick == 7 ? 100000 : 30));
    }

    private void balances() {
        int account = someAccount();
        int day = random.nextBoolean() ? odd(720) : odd(plain.now + 1);
        int month = odd(24);
        int known = random.nextInt(3) == 0 ? plain.now : odd(plain.now + 1);
        if (random.nextBoolean()) {
            same("balance(" + account + ", " + day + ", " + known + ")",
                () -> bank.balance(account, day, known), () -> plain.balance(account, day, known));
        } else {
            same("interest(" + account + ", " + month + ", " + known + ")",
                () -> bank.interest(account, month, known), () -> plain.interest(account, month, known));
        }
    }

    private void drawing() {
        int account = someAccount();
        int branch = odd(4);
        int sum = random.nextInt(4) == 0 ? someSum() : 1 + random.nextInt(60);
        int signers = random.nextInt(3) == 0 ? random.nextInt() : random.nextBoolean() ? 15 : random.nextInt(16);
        switch (random.nextInt(4)) {
            case 0 -> same("may(" + account + ", " + sum + ", " + signers + ")",
                () -> bank.may(account, sum, signers), () -> plain.may(account, sum, signers));
            case 1 -> same("notice(" + account + ", " + sum + ")",
                () -> bank.notice(account, sum) ? 1 : 0, () -> plain.notice(account, sum) ? 1 : 0);
            default -> same("draw(" + account + ", " + branch + ", " + sum + ", " + signers + ")",
                () -> bank.draw(account, branch, sum, signers), () -> plain.draw(account, branch, sum, signers));
        }
    }

    private void books() {
        int account = someAccount();
        int pick = random.nextInt(4);
        if (pick == 0) {
            int what = odd(3);
            same("compare(" + account + ", " + what + ")",
                () -> bank.compare(account, what), () -> plain.compare(account, what));
        } else if (pick == 1) {
            same("settle(" + account + ")", () -> bank.settle(account), () -> plain.settle(account));
        } else {
            boolean copied = !plain.entries.isEmpty() && random.nextInt(4) > 0;
            PlainBank.Entry entry = copied ? plain.entries.get(random.nextInt(plain.entries.size())) : null;
            int saver = copied ? entry.account() : account;
            int day = copied ? entry.day() : odd(720);
            int sum = copied ? entry.sum() : someSum();
            same("write(" + saver + ", " + day + ", " + sum + ")",
                () -> bank.write(saver, day, sum), () -> plain.write(saver, day, sum));
        }
    }

    private void nights() {
        int branch = odd(4);
        int counted = random.nextInt(9) == 0 ? odd(10000001) : random.nextInt(5000);
        if (random.nextBoolean()) {
            same("coin(" + branch + ")", () -> bank.coin(branch), () -> plain.coin(branch));
        } else {
            same("night(" + branch + ", " + counted + ")",
                () -> bank.night(branch, counted), () -> plain.night(branch, counted));
        }
    }

    private void holdings(int style) {
        int scale = style == 0 ? 10 : style == 1 ? 100 : 10000;
        int pick = random.nextInt(style == 3 ? 12 : 24);
        if (pick < 3) {
            int price = random.nextInt(20) == 0 ? odd(10001) : 1 + random.nextInt(scale);
            int change = random.nextInt(20) == 0 ? random.nextInt() : random.nextInt(scale / 5 + 1) - scale / 10;
            same("holding(" + price + ", " + change + ")",
                () -> bank.holding(price, change), () -> plain.holding(price, change));
        } else if (pick < 6) {
            int week = odd(6);
            int sum = random.nextInt(20) == 0 ? odd(60001) : random.nextInt(3) == 0 ? 0 : random.nextInt(scale);
            same("need(" + week + ", " + sum + ")",
                () -> bank.need(week, sum) ? 1 : 0, () -> plain.need(week, sum) ? 1 : 0);
        } else if (pick < 8) {
            same("best()", bank::best, plain::best);
            for (int i = 0; i < plain.holdings.size(); i++) {
                int number = i;
                same("sold(" + number + ")", () -> bank.sold(number), () -> plain.sold(number));
            }
        } else {
            int number = odd(6);
            same("sold(" + number + ")", () -> bank.sold(number), () -> plain.sold(number));
        }
    }
}
