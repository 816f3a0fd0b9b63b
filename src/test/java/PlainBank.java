import java.util.ArrayList;
import java.util.List;
import java.util.NoSuchElementException;

/** The document once more, in the plainest way and with no thought of speed. */
final class PlainBank {
    record Saver(int kind, int with, int opened) { }

    record Entry(int account, int branch, int day, int sum, int known) { }

    record Line(int account, int day, int sum) { }

    record Rules(int from, int known, List<Rule> lines) { }

    record Rule(boolean ofInterest, int number, Node test) { }

    record Node(String what, int number, List<Node> parts) { }

    record Facts(int kind, int base, int age, int month, int day) { }

    record Token(String what, int place) { }

    private static final class Notice {
        int account;
        int sum;
        int day;
        boolean used;
    }

    private static final class Fault extends RuntimeException {
        private static final long serialVersionUID = 1;
        final int code;

        Fault(int code) {
            this.code = code;
        }
    }

    int now = 0;
    final List<Saver> savers = new ArrayList<>();
    final List<Entry> entries = new ArrayList<>();
    final List<Line> lines = new ArrayList<>();
    final List<Rules> texts = new ArrayList<>();
    final List<Notice> notices = new ArrayList<>();
    final List<int[]> holdings = new ArrayList<>();
    final int[] needs = new int[6];
    final int[] settled = new int[20];
    final int[] counted = new int[4];
    final int[] countedAt = new int[4];
    String tape = "";
    int over = 0;
    List<Integer> plan = List.of();

    private boolean isAccount(int account) {
        return account >= 0 && account < savers.size();
    }

    private static void must(boolean holds) {
        if (!holds) {
            throw new NoSuchElementException();
        }
    }

    int account(int kind, int with) {
        boolean looked = kind == 1 || kind == 3;
        if (kind < 0 || kind > 3 || looked && (with < 0 || with > 719) || savers.size() == 20) {
            return -1;
        }
        savers.add(new Saver(kind, with, now));
        return savers.size() - 1;
    }

    int days(int n) {
        if (n < 0 || n > 200 || now + n > 719) {
            return -1;
        }
        now += n;
        return now;
    }

    int post(int account, int branch, int day, int sum) {
        if (!isAccount(account) || branch < 0 || branch > 3 || day < 0 || day > now || sum == 0
            || Math.abs((long) sum) > 100000 || entries.size() == 400) {
            return -1;
        }
        entries.add(new Entry(account, branch, day, sum, now));
        return entries.size() - 1;
    }

    int feed(long a, long b, long c) {
        for (long eight : new long[] {a, b, c}) {
            for (int i = 7; i >= 0; i--) {
                char sign = (char) (eight >> (8 * i) & 255);
                if ((sign == 10 || sign >= 32 && sign <= 126) && tape.length() < 600) {
                    tape += sign;
                }
            }
        }
        return tape.length();
    }

    int text(int day) {
        String taken = tape;
        tape = "";
        if (day < 0 || day > 719 || texts.size() == 8
            || !texts.isEmpty() && texts.get(texts.size() - 1).from() >= day) {
            return -1;
        }
        try {
            texts.add(new Rules(day, now, new Reader(taken).lines()));
            return 0;
        } catch (Fault fault) {
            return fault.code;
        }
    }

    /** Reads by descent; a token is made when it is looked at. */
    private static final class Reader {
        final String text;
        int at = 0;

        Reader(String text) {
            this.text = text;
        }

        Token look() {
            int i = at;
            while (i < text.length() && " \n".indexOf(text.charAt(i)) >= 0) {
                i++;
            }
            if (i == text.length()) {
                return new Token("end", i);
            }
            String rest = text.substring(i);
            String word = rest.replaceAll("(?s)^([a-z]*).*$", "$1");
            String number = rest.replaceAll("(?s)^([0-9]*).*$", "$1");
            if (!word.isEmpty()) {
                return new Token(word.length() > 8 ? "?" : word, i);
            }
            if (!number.isEmpty()) {
                return new Token(number.length() > 5 ? "?" : number, i);
            }
            return new Token("()<=+-;".indexOf(rest.charAt(0)) >= 0 ? rest.substring(0, 1) : "?", i);
        }

        boolean is(String what) {
            return look().what().equals(what);
        }

        Token take() {
            Token token = look();
            at = token.place() + token.what().length();
            return token;
        }

        void expect(String what) {
            if (!is(what)) {
                throw fault(1);
            }
            take();
        }

        Fault fault(int kind) {
            return new Fault(kind + 16 * look().place());
        }

        boolean isNumber() {
            return Character.isDigit(look().what().charAt(0));
        }

        List<Rule> lines() {
            List<Rule> lines = new ArrayList<>();
            while (!is("end")) {
                if (!is("interest") && !is("limit")) {
                    throw fault(1);
                }
                if (lines.size() == 16) {
                    throw fault(5);
                }
                boolean ofInterest = take().what().equals("interest");
                if (!isNumber()) {
                    throw fault(1);
                }
                int number = Integer.parseInt(look().what());
                if (number > (ofInterest ? 100 : 99999)) {
                    throw fault(4);
                }
                take();
                expect("when");
                Node test = readAll(0);
                expect(";");
                lines.add(new Rule(ofInterest, number, test));
            }
            return lines;
        }

        Node readAll(int within) {
            Node all = readTest(within);
            while (is("and")) {
                take();
                all = new Node("and", 0, List.of(all, readTest(within)));
            }
            return all;
        }

        Node readTest(int within) {
            Node left = readSum(within);
            if (is("<") || is("=")) {
                String what = take().what();
                return new Node(what, 0, List.of(left, readSum(within)));
            }
            return left;
        }

        Node readSum(int within) {
            Node sum = readPart(within);
            while (is("+") || is("-")) {
                String what = take().what();
                sum = new Node(what, 0, List.of(sum, readPart(within)));
            }
            return sum;
        }

        Node readPart(int within) {
            boolean word = List.of("kind", "base", "age", "month", "day").contains(look().what());
            if (!isNumber() && !word && !is("(")) {
                throw fault(1);
            }
            if (within == 5) {
                throw fault(5);
            }
            Token token = take();
            if (token.what().equals("(")) {
                Node inner = readAll(within + 1);
                expect(")");
                return inner;
            }
            return word ? new Node(token.what(), 0, List.of())
                : new Node("number", Integer.parseInt(token.what()), List.of());
        }
    }

    private static int worth(Node node, Facts facts) {
        List<Node> parts = node.parts();
        int left = parts.isEmpty() ? 0 : worth(parts.get(0), facts);
        int right = parts.isEmpty() ? 0 : worth(parts.get(1), facts);
        return switch (node.what()) {
            case "number" -> node.number();
            case "kind" -> facts.kind();
            case "base" -> facts.base();
            case "age" -> facts.age();
            case "month" -> facts.month();
            case "day" -> facts.day();
            case "+" -> left + right;
            case "-" -> left - right;
            case "<" -> left < right ? 1 : 0;
            case "=" -> left == right ? 1 : 0;
            default -> left != 0 && right != 0 ? 1 : 0;
        };
    }

    private int lineNumber(boolean ofInterest, int account, int base, int day, int known) {
        Rules force = null;
        for (Rules rules : texts) {
            if (rules.known() <= known && rules.from() <= day) {
                force = rules;
            }
        }
        if (force == null) {
            return -1;
        }
        Saver saver = savers.get(account);
        Facts facts = new Facts(saver.kind(), base, day - saver.opened(), day / 30, day % 30);
        for (Rule rule : force.lines()) {
            if (rule.ofInterest() == ofInterest && worth(rule.test(), facts) != 0) {
                return rule.number();
            }
        }
        return -1;
    }

    /** The balance with the interest of so many months. */
    private int standing(int account, int day, int known, int[] interest, int months) {
        int sum = 0;
        for (Entry entry : entries) {
            if (entry.account() == account && entry.known() <= known && entry.day() <= day) {
                sum += entry.sum();
            }
        }
        for (int month = 0; month < months; month++) {
            sum += interest[month];
        }
        return sum;
    }

    private int[] interests(int account, int known) {
        int[] interest = new int[24];
        for (int month = 0; month < 24; month++) {
            int least = Integer.MAX_VALUE;
            for (int day = 30 * month; day < 30 * month + 30; day++) {
                least = Math.min(least, standing(account, day, known, interest, month));
            }
            if (least >= 240) {
                int rate = lineNumber(true, account, least / 240, 30 * month + 29, known);
                interest[month] = least / 240 * Math.max(rate, 0) / 100;
            }
        }
        return interest;
    }

    private int balanceAt(int account, int day, int known) {
        return day < 0 ? 0 : standing(account, day, known, interests(account, known), day / 30);
    }

    int balance(int account, int day, int known) {
        must(isAccount(account) && day >= 0 && day <= 719 && known >= 0 && known <= now);
        return balanceAt(account, day, known);
    }

    int interest(int account, int month, int known) {
        must(isAccount(account) && month >= 0 && month <= 23 && known >= 0 && known <= now);
        return interests(account, known)[month];
    }

    int may(int account, int sum, int signers) {
        if (!isAccount(account) || sum < 1 || sum > 100000) {
            return 1;
        }
        if (balanceAt(account, now, now) < sum) {
            return 2;
        }
        Saver saver = savers.get(account);
        boolean[] signed = new boolean[4];
        for (int i = 0; i < 4; i++) {
            signed[i] = (signers >> i & 1) == 1;
        }
        boolean enough = signed[0];
        if (saver.kind() == 1 && now < saver.with()) {
            enough = signed[3];
        } else if (saver.kind() == 2) {
            enough = signed[0] && signed[1] || signed[0] && signed[2] || signed[1] && signed[2];
        }
        if (!enough) {
            return 3;
        }
        if (saver.kind() == 3 && noticeFor(account, sum) == null) {
            return 4;
        }
        int base = Math.max(0, balanceAt(account, now - 1, now)) / 240;
        int limit = lineNumber(false, account, base, now, now);
        int drawn = sum;
        for (Entry entry : entries) {
            drawn += entry.account() == account && entry.day() == now && entry.sum() < 0 ? -entry.sum() : 0;
        }
        return limit >= 0 && drawn > limit ? 5 : 0;
    }

    private Notice noticeFor(int account, int sum) {
        for (Notice notice : notices) {
            if (notice.account == account && !notice.used && notice.sum >= sum
                && now - notice.day >= savers.get(account).with()) {
                return notice;
            }
        }
        return null;
    }

    int draw(int account, int branch, int sum, int signers) {
        int reason = may(account, sum, signers);
        if (reason != 0) {
            return reason;
        }
        if (branch < 0 || branch > 3 || entries.size() == 400) {
            return 6;
        }
        if (savers.get(account).kind() == 3) {
            noticeFor(account, sum).used = true;
        }
        entries.add(new Entry(account, branch, now, -sum, now));
        return 0;
    }

    boolean notice(int account, int sum) {
        if (!isAccount(account) || savers.get(account).kind() != 3 || sum < 1 || sum > 100000
            || notices.size() == 60) {
            return false;
        }
        Notice notice = new Notice();
        notice.account = account;
        notice.sum = sum;
        notice.day = now;
        notices.add(notice);
        return true;
    }

    int write(int account, int day, int sum) {
        long there = lines.stream().filter(line -> line.account() == account).count();
        if (!isAccount(account) || day < 0 || day > 719 || there == 40) {
            return -1;
        }
        lines.add(new Line(account, day, sum));
        return (int) there + 1;
    }

    int compare(int account, int what) {
        if (!isAccount(account) || what < 0 || what > 2) {
            return -1;
        }
        List<Line> alone = new ArrayList<>();
        for (Entry entry : entries) {
            if (entry.account() == account) {
                alone.add(new Line(account, entry.day(), entry.sum()));
            }
        }
        int pairs = 0;
        int unpaired = 0;
        for (Line line : lines) {
            if (line.account() == account) {
                boolean paired = alone.remove(line);
                pairs += paired ? 1 : 0;
                unpaired += paired ? 0 : 1;
            }
        }
        return what == 0 ? pairs : what == 1 ? unpaired : alone.size();
    }

    int settle(int account) {
        must(isAccount(account));
        int[] interest = interests(account, now);
        int due = 0;
        for (int month = 0; month < 24; month++) {
            due += 30 * month + 29 < now ? interest[month] : 0;
        }
        int difference = due - settled[account];
        settled[account] = due;
        return difference;
    }

    int night(int branch, int sum) {
        must(branch >= 0 && branch <= 3 && sum >= 0 && sum <= 10000000);
        int difference = sum - coin(branch);
        over += difference;
        counted[branch] = sum;
        countedAt[branch] = entries.size();
        return difference;
    }

    int coin(int branch) {
        must(branch >= 0 && branch <= 3);
        int sum = counted[branch];
        for (Entry entry : entries.subList(countedAt[branch], entries.size())) {
            sum += entry.branch() == branch ? entry.sum() : 0;
        }
        return sum;
    }

    int holding(int price, int change) {
        int[] prices = new int[6];
        for (int week = 0; week < 6; week++) {
            long there = price + (long) week * change;
            if (there < 1 || there > 10000 || holdings.size() == 6) {
                return -1;
            }
            prices[week] = (int) there;
        }
        holdings.add(prices);
        return holdings.size() - 1;
    }

    boolean need(int week, int sum) {
        if (week < 0 || week > 5 || sum < 0 || sum > 60000) {
            return false;
        }
        needs[week] = sum;
        return true;
    }

    /** Tries every plan, the later ones first. */
    int best() {
        int all = 1;
        for (int i = 0; i < holdings.size(); i++) {
            all *= 7;
        }
        int best = -1;
        for (int code = all - 1; code >= 0; code--) {
            int sum = planSum(code);
            if (sum > best) {
                best = sum;
                plan = planOf(code);
            }
        }
        return best;
    }

    private List<Integer> planOf(int code) {
        List<Integer> weeks = new ArrayList<>();
        for (int i = 0; i < holdings.size(); i++) {
            weeks.add(0, code % 7);
            code /= 7;
        }
        return weeks;
    }

    private int planSum(int code) {
        int[] soldIn = new int[7];
        int rest = code;
        for (int i = holdings.size() - 1; i >= 0; i--) {
            int week = rest % 7;
            rest /= 7;
            soldIn[week] += holdings.get(i)[Math.min(week, 5)];
        }
        int sold = 0;
        int needed = 0;
        for (int week = 0; week < 6; week++) {
            sold += soldIn[week];
            needed += needs[week];
            if (sold < needed) {
                return -1;
            }
        }
        return sold + soldIn[6];
    }

    int sold(int holding) {
        return holding < 0 || holding >= plan.size() ? -1 : plan.get(holding);
    }

    int count(int what) {
        int[] counts = {savers.size(), entries.size(), now, texts.size(), notices.size(), holdings.size(),
            tape.length(), over};
        return what < 0 || what > 7 ? -1 : counts[what];
    }
}
