import java.math.BigInteger;
import java.util.ArrayList;
import java.util.HashMap;
import java.util.List;
import java.util.Map;
import java.util.regex.Matcher;
import java.util.regex.Pattern;

/** The document said once more, slowly: true fractions, no packed places, no short ways. */
final class Oracle {
    static final class Q implements Comparable<Q> {
        final BigInteger top;
        final BigInteger foot;

        Q(BigInteger top, BigInteger foot) {
            BigInteger g = top.gcd(foot);
            if (foot.signum() < 0) {
                g = g.negate();
            }
            this.top = top.divide(g);
            this.foot = foot.divide(g);
        }

        static Q of(long top, long foot) {
            return new Q(BigInteger.valueOf(top), BigInteger.valueOf(foot));
        }

        Q plus(Q q) {
            return new Q(top.multiply(q.foot).add(q.top.multiply(foot)), foot.multiply(q.foot));
        }

        Q times(long topBy, long footBy) {
            return new Q(top.multiply(BigInteger.valueOf(topBy)), foot.multiply(BigInteger.valueOf(footBy)));
        }

        @Override
        public int compareTo(Q q) {
            return top.multiply(q.foot).compareTo(q.top.multiply(foot));
        }

        long whole() {
            if (!foot.equals(BigInteger.ONE)) {
                throw new IllegalStateException("no whole number: " + top + "/" + foot);
            }
            return top.longValueExact();
        }
    }

    static final class OBox {
        int kind;
        int price;
        int hours;
        int[] worth;
        int[] chance;
        int extra = -4;
        int[] other;
    }

    /** How each box is, and which worth it showed. */
    static final class Spot {
        final int[] how;
        final int[] saw;

        Spot(int n) {
            how = new int[n];
            saw = new int[n];
        }

        Spot with(int b, int h, int worth) {
            Spot s = new Spot(how.length);
            System.arraycopy(how, 0, s.how, 0, how.length);
            System.arraycopy(saw, 0, s.saw, 0, saw.length);
            s.how[b] = h;
            s.saw[b] = worth;
            return s;
        }

        int has() {
            int most = 0;
            for (int b = 0; b < how.length; b++) {
                if (how[b] >= 3 && saw[b] > most) {
                    most = saw[b];
                }
            }
            return most;
        }

        int code() {
            int code = 0;
            int power = 1;
            for (int h : how) {
                code += h * power;
                power *= 5;
            }
            return code;
        }
    }

    final List<OBox> boxes = new ArrayList<>();
    int bell = 99;
    private final Map<String, Q> memo = new HashMap<>();

    /** Must be called when a price or the bell has changed. */
    void forget() {
        memo.clear();
    }

    Spot first() {
        return new Spot(boxes.size());
    }

    int spent(Spot s) {
        int sum = 0;
        for (int b = 0; b < boxes.size(); b++) {
            if (s.how[b] >= 3) {
                sum += boxes.get(b).hours;
            }
        }
        return sum;
    }

    boolean may(Spot s, int b) {
        OBox x = boxes.get(b);
        if (s.how[b] >= 3 || spent(s) + x.hours > bell) {
            return false;
        }
        if (x.kind == 3 && s.how[x.extra] < 3) {
            return false;
        }
        return x.kind != 5 || spent(s) < x.extra;
    }

    boolean mayPeep(Spot s, int b) {
        return boxes.get(b).kind == 1 && s.how[b] == 0 && may(s, b);
    }

    int kin(int b) {
        for (int k = 0; k < boxes.size(); k++) {
            if (boxes.get(k).kind == 4 && boxes.get(k).extra == b) {
                return k;
            }
        }
        return -4;
    }

    /** As if shut. */
    int[] chances(Spot s, int b) {
        int k = kin(b);
        return k >= 0 && s.how[k] == 3 ? boxes.get(k).other : boxes.get(b).chance;
    }

    /** With a peep's news; together less than 100 then. */
    int[] shownChances(Spot s, int b) {
        int[] c = chances(s, b).clone();
        for (int i = 0; i < c.length; i++) {
            if ((s.how[b] == 1 && i > 0) || (s.how[b] == 2 && i == 0)) {
                c[i] = 0;
            }
        }
        return c;
    }

    static int sum(int[] row) {
        int sum = 0;
        for (int v : row) {
            sum += v;
        }
        return sum;
    }

    long mass(Spot s) {
        long product = 1;
        for (int b = 0; b < boxes.size(); b++) {
            int c = boxes.get(b).chance[0];
            if (s.how[b] == 0) {
                product *= 100;
            } else if (s.how[b] == 1) {
                product *= c;
            } else if (s.how[b] == 2) {
                product *= 100 - c;
            }
        }
        return product;
    }

    long told(Spot s, Q mean) {
        return mean.times(mass(s), 1).whole();
    }

    Q number(Spot s, int b) {
        int[] c = chances(s, b);
        Q best = null;
        long top = -100L * boxes.get(b).price;
        long foot = 0;
        for (int j = 0; j < c.length; j++) {
            top += (long) c[j] * boxes.get(b).worth[j];
            foot += c[j];
            if (foot > 0 && (best == null || Q.of(top, foot).compareTo(best) > 0)) {
                best = Q.of(top, foot);
            }
        }
        return best;
    }

    int rule(Spot s) {
        int found = -4;
        Q most = Q.of(s.has(), 1);
        for (int b = 0; b < boxes.size(); b++) {
            if (may(s, b) && number(s, b).compareTo(most) > 0) {
                most = number(s, b);
                found = b;
            }
        }
        return found;
    }

    Spot opened(Spot s, int b, int i) {
        return s.with(b, i == 0 ? 3 : 4, boxes.get(b).worth[i]);
    }

    Q ruleMean(Spot s) {
        int b = rule(s);
        if (b < 0) {
            return Q.of(s.has(), 1);
        }
        Q mean = Q.of(-boxes.get(b).price, 1);
        int[] c = shownChances(s, b);
        for (int i = 0; i < c.length; i++) {
            if (c[i] > 0) {
                mean = mean.plus(ruleMean(opened(s, b, i)).times(c[i], sum(c)));
            }
        }
        return mean;
    }

    Q actMean(Spot s, int act) {
        int b = act % 10;
        if (act == 0) {
            return Q.of(s.has(), 1);
        }
        if (act >= 30) {
            Q mean = Q.of(0, 1);
            int[] c = chances(s, b);
            for (int i = 0; i < c.length; i++) {
                mean = mean.plus(Q.of((long) c[i] * boxes.get(b).worth[i], 100));
            }
            return mean;
        }
        if (act >= 20) {
            int c = boxes.get(b).chance[0];
            Q mean = Q.of(-boxes.get(b).extra, 1).plus(bestMean(s.with(b, 1, 0)).times(c, 100));
            return c == 100 ? mean : mean.plus(bestMean(s.with(b, 2, 0)).times(100 - c, 100));
        }
        Q mean = Q.of(-boxes.get(b).price, 1);
        int[] c = shownChances(s, b);
        for (int i = 0; i < c.length; i++) {
            if (c[i] > 0) {
                mean = mean.plus(bestMean(opened(s, b, i)).times(c[i], sum(c)));
            }
        }
        return mean;
    }

    /** All acts at a place, those ahead first. */
    List<Integer> acts(Spot s) {
        List<Integer> acts = new ArrayList<>();
        acts.add(0);
        for (int b = 0; b < boxes.size(); b++) {
            if (boxes.get(b).kind == 2 && s.how[b] == 0) {
                acts.add(30 + b);
            }
        }
        for (int b = 0; b < boxes.size(); b++) {
            if (may(s, b)) {
                acts.add(10 + b);
            }
        }
        for (int b = 0; b < boxes.size(); b++) {
            if (mayPeep(s, b)) {
                acts.add(20 + b);
            }
        }
        return acts;
    }

    int best(Spot s) {
        int best = 0;
        Q most = null;
        for (int act : acts(s)) {
            Q mean = actMean(s, act);
            if (most == null || mean.compareTo(most) > 0) {
                most = mean;
                best = act;
            }
        }
        return best;
    }

    Q bestMean(Spot s) {
        String key = s.code() + " " + s.has();
        Q known = memo.get(key);
        if (known == null) {
            for (int act : acts(s)) {
                Q mean = actMean(s, act);
                if (known == null || mean.compareTo(known) > 0) {
                    known = mean;
                }
            }
            memo.put(key, known);
        }
        return known;
    }

    int breach(Spot s) {
        int b = rule(s);
        if (actMean(s, b < 0 ? 0 : 10 + b).compareTo(bestMean(s)) < 0) {
            return s.code();
        }
        int[] c = b < 0 ? new int[0] : shownChances(s, b);
        for (int i = 0; i < c.length; i++) {
            if (c[i] > 0) {
                int found = breach(opened(s, b, i));
                if (found != -4) {
                    return found;
                }
            }
        }
        return -4;
    }

    /** The chance that a box is opened (what 0), taken (1). */
    Q likely(Spot s, int box, int what) {
        int act = best(s);
        int b = act % 10;
        if (act == 0) {
            return Q.of(what == 1 && taken(s) == box ? 1 : 0, 1);
        }
        if (act >= 30) {
            return Q.of(what == 1 && b == box ? 1 : 0, 1);
        }
        if (act >= 20) {
            int c = boxes.get(b).chance[0];
            Q q = likely(s.with(b, 1, 0), box, what).times(c, 100);
            return c == 100 ? q : q.plus(likely(s.with(b, 2, 0), box, what).times(100 - c, 100));
        }
        if (what == 0 && b == box) {
            return Q.of(1, 1);
        }
        Q q = Q.of(0, 1);
        int[] c = shownChances(s, b);
        for (int i = 0; i < c.length; i++) {
            if (c[i] > 0) {
                q = q.plus(likely(opened(s, b, i), box, what).times(c[i], sum(c)));
            }
        }
        return q;
    }

    int taken(Spot s) {
        for (int b = 0; b < boxes.size(); b++) {
            if (s.how[b] >= 3 && s.saw[b] == s.has()) {
                return b;
            }
        }
        return -4;
    }

    boolean beginsAt(Spot s, int box, int price) {
        int before = boxes.get(box).price;
        boxes.get(box).price = price;
        forget();
        boolean begins = best(s) == 10 + box;
        boxes.get(box).price = before;
        forget();
        return begins;
    }

    /** By trying every price. */
    int edge(Spot s, int box) {
        for (int price = 0; price <= 999; price++) {
            if (!beginsAt(s, box, price)) {
                return price;
            }
        }
        return -4;
    }

    int setPrice(int box) {
        int before = boxes.get(box).price;
        int found = 0;
        Q most = Q.of(-1, 1);
        for (int price = 0; price <= 900; price += 100) {
            boxes.get(box).price = price;
            forget();
            Q product = likely(first(), box, 0).times(price, 1);
            if (product.compareTo(most) > 0) {
                most = product;
                found = price;
            }
        }
        boxes.get(box).price = before;
        forget();
        return found;
    }

    Q street(Spot s, int[] order, int turn) {
        Q most = Q.of(s.has(), 1);
        if (turn == order.length) {
            return most;
        }
        Q pass = street(s, order, turn + 1);
        if (pass.compareTo(most) > 0) {
            most = pass;
        }
        int b = order[turn];
        if (may(s, b)) {
            Q open = Q.of(-boxes.get(b).price, 1);
            int[] c = chances(s, b);
            for (int i = 0; i < c.length; i++) {
                if (c[i] > 0) {
                    open = open.plus(street(opened(s, b, i), order, turn + 1).times(c[i], 100));
                }
            }
            if (open.compareTo(most) > 0) {
                most = open;
            }
        }
        return most;
    }

    private Q mostOnStreets;
    private int bestOrder;

    int bestStreet() {
        mostOnStreets = null;
        bestOrder = -4;
        tryOrders(new int[boxes.size()], 0);
        return bestOrder;
    }

    private void tryOrders(int[] order, int size) {
        if (order.length == 0) {
            return;
        }
        if (size == order.length) {
            Q mean = street(first(), order, 0);
            if (mostOnStreets == null || mean.compareTo(mostOnStreets) > 0) {
                mostOnStreets = mean;
                bestOrder = 0;
                for (int i = size - 1; i >= 0; i--) {
                    bestOrder = bestOrder * 8 + order[i];
                }
            }
            return;
        }
        for (int b = 0; b < order.length; b++) {
            boolean met = false;
            for (int i = 0; i < size; i++) {
                met |= order[i] == b;
            }
            if (!met) {
                order[size] = b;
                tryOrders(order, size + 1);
            }
        }
    }

    private int seed;

    private int draw(int[] c) {
        seed = seed * 1103515245 + 12345;
        int lot = ((seed & 0x7fffffff) / 65536) % sum(c);
        int upTo = 0;
        for (int i = 0; i < c.length; i++) {
            upTo += c[i];
            if (lot < upTo) {
                return i;
            }
        }
        throw new IllegalStateException();
    }

    long run(int what, int z) {
        seed = z;
        long paid = 0;
        Spot s = first();
        while (true) {
            int act = what == 0 ? best(s) : rule(s) < 0 ? 0 : 10 + rule(s);
            int b = act % 10;
            if (act == 0) {
                return s.has() - paid;
            }
            int i = draw(shownChances(s, b));
            if (act >= 30) {
                return boxes.get(b).worth[i] - paid;
            }
            if (act >= 20) {
                paid += boxes.get(b).extra;
                s = s.with(b, i == 0 ? 1 : 2, 0);
            } else {
                paid += boxes.get(b).price;
                s = opened(s, b, i);
            }
        }
    }

    // ---- texts

    private static final String N = "(?:0|[1-9][0-9]{0,2})";
    private static final String BOX = "b" + N + " " + N + "(?: " + N + "/" + N + ")*(?:\\?" + N + "|!|<" + N
        + "|>" + N + "(?: " + N + ")*|@" + N + ")?;";
    private static final Pattern TEXT = Pattern.compile("(?:" + BOX + "|l" + N + ";)+");

    /** Reads a text as the class must: the answer that is due; boxes and the bell come if there is no fault. */
    int read(String text) {
        for (int end = 1; end <= text.length(); end++) {
            Matcher m = TEXT.matcher(text.substring(0, end));
            if (!m.matches() && !m.hitEnd()) {
                return -1000 - (end - 1);
            }
        }
        if (!TEXT.matcher(text).matches()) {
            return -1000 - text.length();
        }
        int size = boxes.size();
        int before = bell;
        int start = 0;
        int statements = 0;
        while (start < text.length()) {
            int end = text.indexOf(';', start);
            if (!take(text.substring(start, end))) {
                while (boxes.size() > size) {
                    boxes.remove(boxes.size() - 1);
                }
                bell = before;
                return -2000 - start;
            }
            statements++;
            start = end + 1;
        }
        forget();
        return statements;
    }

    private boolean take(String statement) {
        if (statement.charAt(0) == 'l') {
            bell = Integer.parseInt(statement.substring(1));
            return bell <= 99;
        }
        String[] parts = statement.substring(1).split("(?=[?!<>@])");
        String[] words = parts[0].split(" ");
        OBox x = new OBox();
        x.price = Integer.parseInt(words[0]);
        x.hours = Integer.parseInt(words[1]);
        int steps = words.length - 2;
        x.worth = new int[steps];
        x.chance = new int[steps];
        boolean right = x.hours <= 9 && steps >= 1 && steps <= 4 && boxes.size() < 5;
        for (int i = 0; i < steps; i++) {
            x.worth[i] = Integer.parseInt(words[i + 2].split("/")[0]);
            x.chance[i] = Integer.parseInt(words[i + 2].split("/")[1]);
            right &= x.chance[i] >= 1 && x.chance[i] <= 100 && (i == 0 || x.worth[i] < x.worth[i - 1]);
        }
        right &= sum(x.chance) == 100;
        if (parts.length > 1) {
            right &= takeEnding(x, parts[1]);
        }
        boxes.add(x);
        return right;
    }

    private boolean takeEnding(OBox x, String ending) {
        x.kind = " ?!<>@".indexOf(ending.charAt(0));
        String[] words = ending.substring(1).split(" ");
        if (x.kind == 2) {
            return true;
        }
        x.extra = Integer.parseInt(words[0]);
        if (x.kind == 5) {
            return x.extra >= 1 && x.extra <= 99;
        }
        if (x.kind == 3) {
            return x.extra < boxes.size();
        }
        if (x.kind == 4) {
            x.other = new int[words.length - 1];
            boolean right = true;
            for (int i = 1; i < words.length; i++) {
                x.other[i - 1] = Integer.parseInt(words[i]);
                right &= x.other[i - 1] <= 100;
            }
            return right && x.extra < boxes.size() && boxes.get(x.extra).kind != 1 && kin(x.extra) < 0
                && x.other.length == boxes.get(x.extra).worth.length && sum(x.other) == 100;
        }
        return true;
    }
}
