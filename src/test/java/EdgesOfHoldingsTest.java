/** The boundary cases that the document names of holding, need, best and sold. */
public final class EdgesOfHoldingsTest {
    public static void main(String[] args) {
        priceInWeekZero();
        priceInEachWeek();
        changesThatWrap();
        sixAreThere();
        noSuchWeek();
        anotherSum();
        needIsSetAnew();
        noHolding();
        atLeastAllNeeds();
        needOfEachWeek();
        keptMeetsNoNeed();
        needsCantBeMet();
        theGreatestSum();
        soldLatest();
        thenTheSecond();
        noneSuch();
        noneFoundYet();
        itCameBehind();
        theLatestThatFoundOne();
        Check.end();
    }

    private static PennyBank with(int... pricesAndChanges) {
        PennyBank bank = new PennyBank();
        for (int i = 0; i < pricesAndChanges.length; i += 2) {
            Check.due("holding", bank.holding(pricesAndChanges[i], pricesAndChanges[i + 1]), i / 2);
        }
        return bank;
    }

    private static void best(String when, PennyBank bank, int sum, int... weeks) {
        Check.due(when + ": best()", bank.best(), sum);
        for (int i = 0; i < weeks.length; i++) {
            Check.due(when + ": sold(" + i + ")", bank.sold(i), weeks[i]);
        }
    }

    private static void priceInWeekZero() {
        Check.sentence("Promise 17: its price in week 0 (1 at least, 10000 at most)");
        PennyBank bank = new PennyBank();
        for (int price : Check.beside(1, 10000)) {
            Check.due("holding(" + price + ", 0)", bank.holding(price, 0), -1);
        }
        Check.due("holding(0, 1)", bank.holding(0, 1), -1);
        Check.due("holding(10001, -1)", bank.holding(10001, -1), -1);
        Check.due("none is there", bank.count(5), 0);
        Check.due("holding(1, 0)", bank.holding(1, 0), 0);
        Check.due("holding(10000, 0)", bank.holding(10000, 0), 1);
        best("both", bank, 10001, 6, 6);
    }

    private static void priceInEachWeek() {
        Check.sentence("Promise 17: by how much it changes each week (1 at least, 10000 at most in each)");
        int[][] due = {{5, -1, -1}, {6, -1, 0}, {10, -2, -1}, {11, -2, 0}, {10000, -2000, -1}, {10000, -1999, 0},
            {9995, 1, 0}, {9996, 1, -1}, {5000, 1000, 0}, {5001, 1000, -1}, {1, 1999, 0}, {1, 2000, -1},
            {1, -1, -1}, {10000, 1, -1}};
        for (int[] row : due) {
            PennyBank bank = new PennyBank();
            Check.due("holding(" + row[0] + ", " + row[1] + ")", bank.holding(row[0], row[1]), row[2]);
            Check.due("count(5)", bank.count(5), row[2] + 1);
        }
        best("up to 10000", with(1, 1999), 9996, 6);
        best("down to 1", with(6, -1), 6, 0);
    }

    private static void changesThatWrap() {
        Check.sentence("Promise 17: NONE: a price that is not (none wraps round)");
        PennyBank bank = new PennyBank();
        int[] changes = {Integer.MIN_VALUE, Integer.MAX_VALUE, 858993459, 858993460, -858993459, -858993460,
            429496730, -429496730, 1 << 30, -(1 << 30), 1717986919, -1717986919};
        for (int change : changes) {
            for (int price : new int[] {1, 5000, 10000}) {
                Check.due("holding(" + price + ", " + change + ")", bank.holding(price, change), -1);
            }
        }
        Check.due("none is there", bank.count(5), 0);
    }

    private static void sixAreThere() {
        Check.sentence("Promise 17: NONE: 6 are there");
        PennyBank bank = new PennyBank();
        for (int i = 0; i < 5; i++) {
            Check.due("holding " + i, bank.holding(10, 0), i);
            Check.due("a refused one takes no number", bank.holding(0, 0), -1);
        }
        Check.due("five", bank.count(5), 5);
        Check.due("the 6th", bank.holding(20, 0), 5);
        Check.due("a 7th", bank.holding(40, 0), -1);
        Check.due("six", bank.count(5), 6);
        best("of six", bank, 70, 6, 6, 6, 6, 6, 6, -1);
    }

    private static void noSuchWeek() {
        Check.sentence("Promise 18: The need of a week (0 .. 5); false: none such");
        PennyBank bank = new PennyBank();
        for (int week : Check.beside(0, 5)) {
            Check.due("need(" + week + ", 1)", bank.need(week, 1), false);
        }
        best("no need", bank, 0);
        Check.due("need(0, 1)", bank.need(0, 1), true);
        best("a need of week 0", bank, -1);
        Check.due("need(0, 0)", bank.need(0, 0), true);
        Check.due("need(5, 1)", bank.need(5, 1), true);
        best("a need of week 5", bank, -1);
    }

    private static void anotherSum() {
        Check.sentence("Promise 18: a sum for each week (0 .. 60000); false: another sum");
        PennyBank bank = with(10, 0);
        Check.due("need(0, 10)", bank.need(0, 10), true);
        for (int sum : Check.beside(0, 60000)) {
            Check.due("need(0, " + sum + ")", bank.need(0, sum), false);
            best("the need is as it was", bank, 10, 0);
        }
        Check.due("need(0, 60000)", bank.need(0, 60000), true);
        best("too much", bank, -1);
        Check.due("need(0, 0)", bank.need(0, 0), true);
        best("nothing", bank, 10, 6);
    }

    private static void needIsSetAnew() {
        Check.sentence("Promise 18: The need of a week: true (it is one sum)");
        PennyBank bank = with(10, 0);
        bank.need(2, 10);
        bank.need(2, 10);
        best("not both", bank, 10, 2);
        bank.need(2, 11);
        best("the new one", bank, -1);
        bank.need(2, 0);
        best("none", bank, 10, 6);
    }

    private static void noHolding() {
        Check.sentence("Promise 19: The BEST without a HOLDING");
        PennyBank bank = new PennyBank();
        best("no need", bank, 0, -1);
        for (int week = 0; week <= 5; week++) {
            bank.need(week, 1);
            best("a need of week " + week, bank, -1, -1);
            bank.need(week, 0);
        }
        best("no need again", bank, 0, -1);
    }

    private static void atLeastAllNeeds() {
        Check.sentence("5. HOLDINGS: What was sold up to a week must be at least all needs up to it");
        PennyBank bank = with(50, 0, 50, 0);
        bank.need(1, 49);
        best("49", bank, 100, 6, 1);
        bank.need(1, 50);
        best("50", bank, 100, 6, 1);
        bank.need(1, 51);
        best("51", bank, 100, 1, 1);
        bank.need(1, 100);
        best("100", bank, 100, 1, 1);
        bank.need(1, 101);
        best("101", bank, -1);
        bank.need(1, 30);
        bank.need(3, 20);
        best("50 in two weeks", bank, 100, 6, 1);
        bank.need(3, 21);
        best("51 in two weeks", bank, 100, 3, 1);
        bank.need(5, 49);
        best("100 in three weeks", bank, 100, 3, 1);
        bank.need(5, 50);
        best("101 in three weeks", bank, -1);
    }

    private static void needOfEachWeek() {
        Check.sentence("5. HOLDINGS: Needs: a sum for each week");
        for (int week = 0; week <= 5; week++) {
            PennyBank bank = with(10, 5);
            bank.need(week, 10 + 5 * week);
            best("all of week " + week, bank, 10 + 5 * week, week);
            bank.need(week, 11 + 5 * week);
            best("more than all of week " + week, bank, -1);
        }
    }

    private static void keptMeetsNoNeed() {
        Check.sentence("5. HOLDINGS: Each HOLDING is sold in one week at that week's price, or kept");
        PennyBank bank = with(10, 0);
        best("no need", bank, 10, 6);
        bank.need(5, 1);
        best("a need of the last week", bank, 10, 5);
        bank.need(5, 10);
        best("all of it", bank, 10, 5);
        bank.need(5, 11);
        best("more", bank, -1);
    }

    private static void needsCantBeMet() {
        Check.sentence("Promise 19: NONE: needs can't be met");
        PennyBank bank = with(10000, 0, 10000, 0, 10000, 0, 10000, 0, 10000, 0, 10000, 0);
        bank.need(0, 60000);
        best("all at once", bank, 60000, 0, 0, 0, 0, 0, 0);
        bank.need(1, 1);
        best("1 more", bank, -1);
        bank.need(0, 59999);
        best("1 less", bank, 60000, 0, 0, 0, 0, 0, 0);
        for (int week = 0; week <= 5; week++) {
            bank.need(week, 60000);
        }
        best("the greatest needs", bank, -1);
        for (int week = 0; week <= 5; week++) {
            bank.need(week, 10000);
        }
        best("one a week", bank, 60000, 5, 4, 3, 2, 1, 0);
    }

    private static void theGreatestSum() {
        Check.sentence("5. HOLDINGS: The BEST: the greatest sum of what was sold and the last week's prices");
        best("it rises", with(10, 1), 15, 6);
        best("it falls", with(10, -1), 10, 0);
        best("one of each", with(10, 1, 10, -1), 25, 6, 0);
        PennyBank bank = with(10, 2, 10, 1);
        bank.need(0, 10);
        best("the lesser loss", bank, 30, 6, 0);
        bank.need(0, 11);
        best("both are needed", bank, 20, 0, 0);
        PennyBank lone = with(100, 1, 60, 0, 60, 0);
        lone.need(0, 100);
        best("two without a loss for one with it", lone, 225, 6, 0, 0);
        lone.need(0, 121);
        best("one with a loss is needed", lone, 220, 0, 6, 0);
    }

    private static void soldLatest() {
        Check.sentence("5. HOLDINGS: of equal ones that in which the first HOLDING is sold latest (kept is latest)");
        best("kept", with(10, 0), 10, 6);
        for (int week = 0; week <= 5; week++) {
            PennyBank bank = with(10, 0);
            bank.need(week, 1);
            best("a need of week " + week, bank, 10, week);
        }
        PennyBank bank = with(10, 0, 10, 0);
        bank.need(3, 1);
        best("the first is kept", bank, 20, 6, 3);
        PennyBank other = with(10, 0, 5, 0);
        other.need(3, 6);
        best("only the first is enough", other, 15, 3, 6);
    }

    private static void thenTheSecond() {
        Check.sentence("5. HOLDINGS: then the second one, and so on");
        PennyBank bank = with(10, 0, 10, 0, 10, 0);
        bank.need(1, 1);
        bank.need(4, 10);
        best("two of three", bank, 30, 6, 4, 1);
        PennyBank parts = with(5, 0, 5, 0, 10, 0);
        parts.need(2, 10);
        best("the third alone", parts, 20, 6, 6, 2);
        PennyBank six = with(10, 0, 10, 0, 10, 0, 10, 0, 10, 0, 10, 0);
        six.need(0, 10);
        six.need(3, 20);
        best("three of six", six, 60, 6, 6, 6, 3, 3, 0);
        PennyBank mixed = with(20, 0, 10, 0, 10, 0);
        mixed.need(0, 10);
        mixed.need(5, 10);
        best("the small ones", mixed, 40, 6, 5, 0);
        mixed.need(5, 11);
        best("the great one as late as can be", mixed, 40, 5, 6, 0);
    }

    private static void noneSuch() {
        Check.sentence("Promise 20: NONE: none such");
        PennyBank bank = with(10, 0, 10, -1);
        best("two", bank, 20, 6, 0);
        for (int holding : Check.beside(0, 1)) {
            Check.due("sold(" + holding + ")", bank.sold(holding), -1);
        }
        PennyBank six = with(10, 0, 10, 0, 10, 0, 10, 0, 10, 0, 10, -1);
        best("six", six, 60, 6, 6, 6, 6, 6, 0);
        for (int holding : Check.beside(0, 5)) {
            Check.due("sold(" + holding + ") of six", six.sold(holding), -1);
        }
    }

    private static void noneFoundYet() {
        Check.sentence("Promise 20: NONE: none found yet");
        PennyBank bank = with(10, 0);
        Check.due("no best() yet", bank.sold(0), -1);
        bank.need(0, 11);
        best("best() that found none", bank, -1, -1);
        bank.need(0, 10);
        Check.due("needs that can be met find none", bank.sold(0), -1);
        best("best() that found one", bank, 10, 0);
    }

    private static void itCameBehind() {
        Check.sentence("Promise 20: NONE: or it came behind that");
        PennyBank bank = new PennyBank();
        best("of none", bank, 0, -1);
        for (int i = 0; i < 6; i++) {
            bank.holding(10, 0);
            Check.due("holding " + i + " came behind", bank.sold(i), -1);
            Check.due("the one ahead did not", i == 0 ? 6 : bank.sold(i - 1), 6);
            bank.best();
            Check.due("holding " + i + " is in it", bank.sold(i), 6);
        }
    }

    private static void theLatestThatFoundOne() {
        Check.sentence("Promise 20: by the latest best() that found one");
        PennyBank bank = with(10, 0);
        bank.need(2, 10);
        best("the first", bank, 10, 2);
        bank.need(4, 1);
        best("it found none", bank, -1, 2);
        bank.need(4, 0);
        bank.need(2, 0);
        bank.need(3, 1);
        Check.due("needs alone change nothing", bank.sold(0), 2);
        best("the second", bank, 10, 3);
        bank.holding(5, 0);
        bank.need(3, 16);
        best("it found none for two", bank, -1, 3, -1);
        bank.need(3, 15);
        best("the third", bank, 15, 3, 3);
    }
}
