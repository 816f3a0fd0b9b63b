/** Promises 15 and 16: night, coin. */
public final class NightsTest {
    public static void main(String[] args) {
        coinsOfBranches();
        wrongArguments();
        Check.end();
    }

    private static void coinsOfBranches() {
        PennyBank bank = new PennyBank();
        bank.account(0, 0);
        bank.account(0, 0);
        for (int branch = 0; branch < 4; branch++) {
            Check.due("coin at first", bank.coin(branch), 0);
        }
        bank.days(5);
        bank.post(0, 2, 0, 500);
        bank.post(1, 2, 5, 70);
        bank.post(1, 3, 5, -9);
        bank.draw(0, 2, 30, 1);
        Check.due("coin of all accounts", bank.coin(2), 540);
        Check.due("coin below 0", bank.coin(3), -9);
        Check.due("short", bank.night(2, 500), -40);
        Check.due("as counted", bank.coin(2), 500);
        Check.due("count(7)", bank.count(7), -40);
        Check.due("over", bank.night(3, 1), 10);
        Check.due("count(7) of both", bank.count(7), -30);
        Check.due("nothing over", bank.night(2, 500), 0);
        bank.post(0, 2, 1, 25);
        Check.due("posted since, though of an earlier day", bank.coin(2), 525);
        Check.due("over again", bank.night(2, 600), 75);
        Check.due("count(7) of all", bank.count(7), 45);
        Check.due("another branch", bank.coin(0), 0);
        Check.due("the balance is not touched", bank.balance(0, 5, 5), 495);
    }

    private static void wrongArguments() {
        PennyBank bank = new PennyBank();
        Check.noSuch("coin(-1)", () -> bank.coin(-1));
        Check.noSuch("coin(4)", () -> bank.coin(4));
        Check.noSuch("night(-1, 0)", () -> bank.night(-1, 0));
        Check.noSuch("night(4, 0)", () -> bank.night(4, 0));
        Check.noSuch("night(0, -1)", () -> bank.night(0, -1));
        Check.noSuch("night(0, 10000001)", () -> bank.night(0, 10000001));
        Check.due("nothing was counted", bank.coin(0), 0);
        Check.due("count(7)", bank.count(7), 0);
        Check.due("the most", bank.night(0, 10000000), 10000000);
        Check.due("the least", bank.night(0, 0), -10000000);
        Check.due("count(7) again", bank.count(7), 0);
    }
}
