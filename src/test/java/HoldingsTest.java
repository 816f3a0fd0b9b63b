/** Promises 17 to 20: holding, need, best, sold. */
public final class HoldingsTest {
    public static void main(String[] args) {
        prices();
        sixAtMost();
        needs();
        equalPlans();
        latestPlan();
        Check.end();
    }

    private static void prices() {
        PennyBank bank = new PennyBank();
        Check.due("price 0", bank.holding(0, 1), -1);
        Check.due("price 10001", bank.holding(10001, -1), -1);
        Check.due("last price 0", bank.holding(50, -10), -1);
        Check.due("last price 10001", bank.holding(5001, 1000), -1);
        Check.due("the least change", bank.holding(1, Integer.MIN_VALUE), -1);
        Check.due("the greatest change", bank.holding(1, Integer.MAX_VALUE), -1);
        Check.due("a change that wraps", bank.holding(1, 858993459), -1);
        Check.due("another that wraps", bank.holding(5, -858993460), -1);
        Check.due("none is there", bank.count(5), 0);
        Check.due("last price 1", bank.holding(51, -10), 0);
        Check.due("last price 10000", bank.holding(5000, 1000), 1);
        Check.due("price 1", bank.holding(1, 0), 2);
        Check.due("price 10000", bank.holding(10000, 0), 3);
    }

    private static void sixAtMost() {
        PennyBank bank = new PennyBank();
        for (int i = 0; i < 6; i++) {
            Check.due("holding " + i, bank.holding(10000, 0), i);
        }
        Check.due("the 7th", bank.holding(10, 0), -1);
        Check.due("count(5)", bank.count(5), 6);
        Check.due("best", bank.best(), 60000);
        for (int week = 0; week < 6; week++) {
            bank.need(week, 10000);
        }
        Check.due("one a week", bank.best(), 60000);
        for (int i = 0; i < 6; i++) {
            Check.due("sold " + i, bank.sold(i), 5 - i);
        }
        bank.need(0, 10001);
        Check.due("needs can't be met", bank.best(), -1);
        bank.need(5, 9999);
        Check.due("two at first", bank.best(), 60000);
        Check.due("sold 5", bank.sold(5), 0);
        Check.due("sold 4", bank.sold(4), 0);
        Check.due("sold 3", bank.sold(3), 1);
        Check.due("sold 0 then", bank.sold(0), 4);
    }

    private static void needs() {
        PennyBank bank = new PennyBank();
        Check.due("no holding, no need", bank.best(), 0);
        Check.due("week -1", bank.need(-1, 0), false);
        Check.due("week 6", bank.need(6, 0), false);
        Check.due("sum -1", bank.need(0, -1), false);
        Check.due("sum 60001", bank.need(0, 60001), false);
        Check.due("still none", bank.best(), 0);
        Check.due("sum 60000", bank.need(0, 60000), true);
        Check.due("no holding for it", bank.best(), -1);
        bank.need(0, 0);
        bank.holding(100, 10);
        bank.holding(100, 20);
        Check.due("all kept", bank.best(), 350);
        bank.need(2, 120);
        Check.due("the lesser loss", bank.best(), 320);
        Check.due("sold 0", bank.sold(0), 2);
        Check.due("sold 1", bank.sold(1), 6);
        bank.need(2, 121);
        Check.due("the other one is needed", bank.best(), 290);
        Check.due("sold 0 then", bank.sold(0), 6);
        Check.due("sold 1 then", bank.sold(1), 2);
        bank.need(3, 20);
        bank.need(2, 120);
        Check.due("more than needed is carried", bank.best(), 290);
        Check.due("sold 0 in week", bank.sold(0), 6);
        Check.due("sold 1 in week", bank.sold(1), 2);
    }

    private static void equalPlans() {
        PennyBank bank = new PennyBank();
        bank.holding(50, 0);
        bank.holding(50, 0);
        bank.holding(50, 0);
        bank.need(1, 40);
        bank.need(5, 60);
        Check.due("equal ones", bank.best(), 150);
        Check.due("the first is kept", bank.sold(0), 6);
        Check.due("the second is sold last", bank.sold(1), 5);
        Check.due("the third is sold first", bank.sold(2), 1);
        PennyBank falling = new PennyBank();
        falling.holding(60, -10);
        Check.due("falling", falling.best(), 60);
        Check.due("sold at once", falling.sold(0), 0);
    }

    private static void latestPlan() {
        PennyBank bank = new PennyBank();
        bank.holding(10, 0);
        Check.due("none found yet", bank.sold(0), -1);
        bank.need(0, 11);
        Check.due("not met", bank.best(), -1);
        Check.due("still none found", bank.sold(0), -1);
        bank.need(0, 10);
        Check.due("met", bank.best(), 10);
        Check.due("sold(0)", bank.sold(0), 0);
        Check.due("sold(-1)", bank.sold(-1), -1);
        Check.due("sold(1)", bank.sold(1), -1);
        bank.holding(10, 0);
        Check.due("it came behind", bank.sold(1), -1);
        bank.need(0, 21);
        Check.due("not met again", bank.best(), -1);
        Check.due("the latest that found one", bank.sold(0), 0);
        Check.due("not for the second", bank.sold(1), -1);
        bank.need(0, 0);
        Check.due("the old plan till then", bank.sold(0), 0);
        Check.due("met by none", bank.best(), 20);
        Check.due("kept", bank.sold(0), 6);
        Check.due("kept too", bank.sold(1), 6);
        Check.due("sold(6)", bank.sold(6), -1);
        Check.due("sold of the greatest int", bank.sold(Integer.MAX_VALUE), -1);
    }
}
