import java.util.ArrayList;
import java.util.Arrays;
import java.util.HashMap;
import java.util.List;
import java.util.Map;

/**
 * The document once more, written apart from the class and without a thought for speed:
 * texts are parsed anew for each value, and every minute is gone through.
 */
final class Model {
    static final class Fault extends Exception {
        private static final long serialVersionUID = 1L;
        final int place;

        Fault(int place) {
            this.place = place;
        }
    }

    static final class Man {
        int skill = 3, chalk = 50, price = 10, cell, may = 1;
        int number = 0, answer = -1, work = 0;
        boolean out = false;

        Man(int cell) {
            this.cell = cell;
        }

        Man twin() {
            Man m = new Man(cell);
            m.skill = skill;
            m.chalk = chalk;
            m.price = price;
            m.may = may;
            m.number = number;
            m.answer = answer;
            m.work = work;
            m.out = out;
            return m;
        }
    }

    static final class Sum {
        String text;
        int kind, m;

        Sum(String text, int kind, int m) {
            this.text = text;
            this.kind = kind;
            this.m = m;
        }
    }

    static final class All {
        List<Sum> sums = new ArrayList<>();
        List<Man> men = new ArrayList<>();
        int theSum = -1, rich = 999, minute = 0, z = 1;
        int[] spots = new int[10];

        All twin() {
            All a = new All();
            for (Sum s : sums) {
                a.sums.add(new Sum(s.text, s.kind, s.m));
            }
            for (Man m : men) {
                a.men.add(m.twin());
            }
            a.theSum = theSum;
            a.rich = rich;
            a.minute = minute;
            a.z = z;
            a.spots = spots.clone();
            return a;
        }
    }

    /** Recursive descent over one text; it works the value out on its way. */
    static final class Reader {
        final String text;
        final int x;
        int at = 0;

        Reader(String text, int x) {
            this.text = text;
            this.x = x;
        }

        int peek() {
            return at < text.length() ? text.charAt(at) : -1;
        }

        int[] whole() throws Fault {
            int l = side(0);
            if (peek() != '=') {
                throw new Fault(at);
            }
            at++;
            int r = side(0);
            if (at != text.length()) {
                throw new Fault(at);
            }
            return new int[] {l, r};
        }

        int side(int depth) throws Fault {
            int v = product(depth);
            while (peek() == '+' || peek() == '-') {
                boolean plus = text.charAt(at++) == '+';
                int w = product(depth);
                v = plus ? v + w : v - w;
            }
            return v;
        }

        int product(int depth) throws Fault {
            int v = piece(depth);
            while (peek() == '*' || peek() == '/' || peek() == '%') {
                char c = text.charAt(at++);
                int w = piece(depth);
                if (c == '*') {
                    v = v * w;
                } else if (w == 0) {
                    v = 0;
                } else {
                    v = (int) (c == '/' ? (long) v / w : (long) v % w);
                }
            }
            return v;
        }

        int piece(int depth) throws Fault {
            if (peek() == 'x') {
                at++;
                return x;
            }
            if (peek() == '(' && depth < 4) {
                at++;
                int v = side(depth + 1);
                if (peek() != ')') {
                    throw new Fault(at);
                }
                at++;
                return v;
            }
            int v = 0;
            int begin = at;
            while (at - begin < 3 && peek() >= '0' && peek() <= '9') {
                v = v * 10 + (text.charAt(at++) - '0');
            }
            if (at == begin) {
                throw new Fault(at);
            }
            return v;
        }
    }

    All now = new All();
    All kept = null;
    String tape = "";
    int[][] sheets = new int[4][];
    int[] bits = new int[4];
    int[] told = new int[7];

    Model() {
        for (int p = 0; p < 10; p++) {
            now.men.add(new Man(p));
        }
        Arrays.fill(now.spots, -1);
    }

    int tell(int finding) {
        told[-(finding + 1000001)]++;
        return finding;
    }

    static boolean in(int v, int a, int b) {
        return a <= v && v <= b;
    }

    boolean noSum(int s) {
        return !in(s, 0, now.sums.size() - 1);
    }

    static int[] sides(String text, int x) {
        try {
            return new Reader(text, x).whole();
        } catch (Fault f) {
            throw new IllegalStateException(f);
        }
    }

    static boolean solved(Sum s, int x, int m) {
        int[] v = sides(s.text, x);
        int gap = v[0] - v[1];
        boolean rest = gap % m == 0;
        boolean[] by = {v[0] == v[1], v[0] < v[1], rest, rest && x % 2 != 0, v[0] != v[1], v[0] > v[1],
            Math.abs((long) gap) <= m};
        return by[s.kind];
    }

    private static final Map<String, List<Integer>> KNOWN = new HashMap<>();

    static List<Integer> solvers(Sum s, int m) {
        String key = s.text + " " + s.kind + " " + m;
        if (!KNOWN.containsKey(key)) {
            List<Integer> all = new ArrayList<>();
            for (int x = 0; x <= 99; x++) {
                if (solved(s, x, m)) {
                    all.add(x);
                }
            }
            KNOWN.put(key, all);
        }
        return new ArrayList<>(KNOWN.get(key));
    }

    static int hard(Sum s) {
        int h = s.text.replaceAll("[()=]", "").length();
        if (s.kind == 1 || s.kind == 5) {
            return h + h / 2;
        }
        return s.kind == 3 ? h + 5 : h;
    }

    // ---- minutes

    static void stepA(Man man, Sum s, List<Integer> right) {
        if (man.out || man.answer != -1 || man.chalk == 0) {
            return;
        }
        man.work += man.skill;
        man.chalk--;
        while (man.work >= hard(s)) {
            man.work -= hard(s);
            if (right.contains(man.number)) {
                man.answer = man.number;
                break;
            }
            man.number = (man.number + 1) % 100;
        }
    }

    static void minute(All all) {
        all.minute++;
        if (all.theSum == -1) {
            return;
        }
        Sum s = all.sums.get(all.theSum);
        List<Integer> right = solvers(s, s.m);
        List<Man> before = new ArrayList<>();
        for (Man m : all.men) {
            before.add(m.twin());
        }
        for (Man m : all.men) {
            stepA(m, s, right);
        }
        for (Man m : all.men) {
            if (m.out || m.answer != -1) {
                continue;
            }
            Man seller = null;
            for (int price = 0; price <= 99 && seller == null; price++) {
                for (Man o : all.men) {
                    if (seller == null && o.price == price && o.answer != -1 && !o.out) {
                        seller = o;
                    }
                }
            }
            if (seller != null && m.chalk >= seller.price) {
                m.chalk -= seller.price;
                seller.chalk = Math.min(999, seller.chalk + seller.price);
                m.answer = seller.answer;
            }
        }
        for (Man m : all.men) {
            for (int cell = m.cell - 1; cell <= m.cell + 1; cell += 2) {
                for (Man b : before) {
                    if (!m.out && m.answer == -1 && b.cell == cell && b.answer != -1 && !b.out) {
                        m.answer = b.answer;
                    }
                }
            }
        }
        for (Man m : all.men) {
            if (m.answer != -1 && m.chalk <= all.rich) {
                m.out = true;
            }
        }
    }

    static void newDay(All all) {
        all.minute = 0;
        for (Man m : all.men) {
            m.number = 0;
            m.work = 0;
            m.answer = -1;
            m.out = false;
        }
    }

    static int outs(All all) {
        int set = 0;
        for (int p = 0; p < 10; p++) {
            set += all.men.get(p).out ? 1 << p : 0;
        }
        return set;
    }

    static int mays(All all) {
        int set = 0;
        for (int p = 0; p < 10; p++) {
            set += all.men.get(p).may << p;
        }
        return set;
    }

    static int chalks(All all) {
        int sum = 0;
        for (Man m : all.men) {
            sum += m.chalk;
        }
        return sum;
    }

    All dayWith(int s) {
        All a = now.twin();
        newDay(a);
        a.theSum = s;
        return a;
    }

    static All gone(All a, int n) {
        for (int i = 0; i < n; i++) {
            minute(a);
        }
        return a;
    }

    // ---- the face

    int feed(int bytes, int n) {
        if (!in(n, 1, 4)) {
            return tell(Check.BEYOND);
        }
        if (tape.length() + n > 40) {
            return tell(Check.FULL);
        }
        String more = "";
        for (int i = 0; i < n; i++) {
            more = (char) (bytes >> 8 * i & 255) + more;
        }
        tape += more;
        return tape.length();
    }

    int wipe() {
        int n = tape.length();
        tape = "";
        return n;
    }

    int sum(int kind, int m) {
        if (!in(kind, 0, 6) || !in(m, 1, 99)) {
            return tell(Check.BEYOND);
        }
        if (now.sums.size() == 8) {
            return tell(Check.FULL);
        }
        String text = tape;
        tape = "";
        try {
            new Reader(text, 0).whole();
        } catch (Fault f) {
            return -10 - f.place;
        }
        now.sums.add(new Sum(text, kind, m));
        return now.sums.size() - 1;
    }

    int sumOf(int sum, int what) {
        if (noSum(sum) || !in(what, 0, 3)) {
            return tell(Check.BEYOND);
        }
        Sum s = now.sums.get(sum);
        return what == 0 ? s.kind : what == 1 ? s.m : what == 2 ? hard(s) : solvers(s, s.m).size();
    }

    int change(int sum, int what, int v) {
        if (noSum(sum) || !in(what, 0, 1) || !in(v, what, what == 0 ? 6 : 99)) {
            return tell(Check.BEYOND);
        }
        Sum s = now.sums.get(sum);
        int was = what == 0 ? s.kind : s.m;
        if (what == 0) {
            s.kind = v;
        } else {
            s.m = v;
        }
        return was;
    }

    int side(int sum, int side, int x) {
        if (noSum(sum) || !in(side, 0, 1)) {
            return tell(Check.BEYOND);
        }
        return sides(now.sums.get(sum).text, x)[side];
    }

    int solves(int sum, int x) {
        if (noSum(sum) || !in(x, 0, 99)) {
            return tell(Check.BEYOND);
        }
        Sum s = now.sums.get(sum);
        return solved(s, x, s.m) ? 1 : 0;
    }

    int solution(int sum, int i) {
        if (noSum(sum) || !in(i, 0, 99)) {
            return tell(Check.BEYOND);
        }
        Sum s = now.sums.get(sum);
        List<Integer> all = solvers(s, s.m);
        return i < all.size() ? all.get(i) : tell(Check.NONE);
    }

    int both(int one, int other) {
        if (noSum(one) || noSum(other)) {
            return tell(Check.BEYOND);
        }
        List<Integer> all = solvers(now.sums.get(one), now.sums.get(one).m);
        all.retainAll(solvers(now.sums.get(other), now.sums.get(other).m));
        return all.size();
    }

    int strict(int sum) {
        if (noSum(sum)) {
            return tell(Check.BEYOND);
        }
        for (int many = 1; many <= 100; many++) {
            for (int m = 1; m <= 99; m++) {
                if (solvers(now.sums.get(sum), m).size() == many) {
                    return m;
                }
            }
        }
        return tell(Check.NONE);
    }

    int prisoner(int p, int what, int v) {
        if (!in(p, 0, 9) || !in(what, 0, 4)) {
            return tell(Check.BEYOND);
        }
        int[] most = {9, 999, 99, 19, 1};
        if (!in(v, what == 0 ? 1 : 0, most[what])) {
            return tell(Check.BEYOND);
        }
        int was = of(p, what);
        Man m = now.men.get(p);
        switch (what) {
            case 0 -> m.skill = v;
            case 1 -> m.chalk = v;
            case 2 -> m.price = v;
            case 3 -> m.cell = v;
            default -> m.may = v;
        }
        return was;
    }

    int of(int p, int what) {
        if (!in(p, 0, 9) || !in(what, 0, 8)) {
            return tell(Check.BEYOND);
        }
        Man m = now.men.get(p);
        return new int[] {m.skill, m.chalk, m.price, m.cell, m.may, m.number, m.answer, m.work, m.out ? 1 : 0}[what];
    }

    int set(int sum) {
        if (sum != -1 && noSum(sum)) {
            return tell(Check.BEYOND);
        }
        int was = now.theSum;
        now.theSum = sum;
        newDay(now);
        return was;
    }

    int rich(int v) {
        if (!in(v, 0, 999)) {
            return tell(Check.BEYOND);
        }
        int was = now.rich;
        now.rich = v;
        return was;
    }

    int alms(int n) {
        if (!in(n, 1, 10)) {
            return tell(Check.BEYOND);
        }
        for (int i = 0; i < n; i++) {
            now.z = (int) (now.z * 1103515245L + 12345L);
            Man m = now.men.get((now.z >>> 8) % 10);
            m.chalk = Math.min(999, m.chalk + 1);
        }
        return chalks(now);
    }

    int school(int one, int other) {
        if (!in(one, 0, 9) || !in(other, 0, 9) || one == other) {
            return tell(Check.BEYOND);
        }
        Man a = now.men.get(one);
        Man b = now.men.get(other);
        if (a.skill == b.skill) {
            return tell(Check.STATE);
        }
        Man weak = a.skill < b.skill ? a : b;
        Man strong = weak == a ? b : a;
        weak.skill++;
        strong.chalk = Math.max(0, strong.chalk - 2);
        return a.skill;
    }

    int minutes(int n) {
        if (!in(n, 1, 100)) {
            return tell(Check.BEYOND);
        }
        if (now.minute + n > 480) {
            return tell(Check.STATE);
        }
        int before = outs(now);
        gone(now, n);
        return Integer.bitCount(outs(now) & ~before);
    }

    int out() {
        return outs(now);
    }

    int day() {
        int n = Integer.bitCount(outs(now));
        newDay(now);
        return n;
    }

    int ahead(int n, int what) {
        if (!in(n, 0, 200) || !in(what, 0, 2)) {
            return tell(Check.BEYOND);
        }
        if (now.minute + n > 480) {
            return tell(Check.STATE);
        }
        All a = gone(now.twin(), n);
        int answers = 0;
        for (int p = 0; p < 10; p++) {
            answers += a.men.get(p).answer >= 0 ? 1 << p : 0;
        }
        return what == 0 ? outs(a) : what == 1 ? answers : chalks(a);
    }

    int when(int p) {
        if (!in(p, 0, 9)) {
            return tell(Check.BEYOND);
        }
        if (now.men.get(p).out || now.minute > 280) {
            return tell(Check.STATE);
        }
        All a = now.twin();
        for (int n = 1; n <= 200; n++) {
            minute(a);
            if (a.men.get(p).out) {
                return n;
            }
        }
        return tell(Check.NONE);
    }

    int lets(int sum, int n) {
        if (noSum(sum) || !in(n, 1, 200)) {
            return tell(Check.BEYOND);
        }
        return outs(gone(dayWith(sum), n));
    }

    private int wrongOf(int sum, int n) {
        All a = gone(dayWith(sum), n);
        int wrong = 0;
        for (Man m : a.men) {
            wrong += m.out == (m.may == 1) ? 0 : 1;
        }
        return wrong;
    }

    int choose(int n) {
        if (!in(n, 1, 200)) {
            return tell(Check.BEYOND);
        }
        int best = -1;
        int least = 0;
        for (int s = now.sums.size() - 1; s >= 0; s--) {
            int w = wrongOf(s, n);
            if (best == -1 || w <= least) {
                best = s;
                least = w;
            }
        }
        return best == -1 ? tell(Check.NONE) : best;
    }

    int wrongs(int sum, int n) {
        if (noSum(sum) || !in(n, 1, 200)) {
            return tell(Check.BEYOND);
        }
        return wrongOf(sum, n);
    }

    int fewest(int n) {
        if (!in(n, 1, 100)) {
            return tell(Check.BEYOND);
        }
        int count = now.sums.size();
        int[] lets = new int[count];
        for (int s = 0; s < count; s++) {
            lets[s] = outs(gone(dayWith(s), n));
        }
        for (int size = 0; size <= count; size++) {
            for (int set = 0; set < 1 << count; set++) {
                if (Integer.bitCount(set) == size && fits(set, lets)) {
                    return set;
                }
            }
        }
        return tell(Check.NONE);
    }

    private boolean fits(int set, int[] lets) {
        for (int p = 0; p < 10; p++) {
            int by = 0;
            for (int s = 0; s < lets.length; s++) {
                if ((set >> s & 1) == 1 && (lets[s] >> p & 1) == 1) {
                    by++;
                }
            }
            if (now.men.get(p).may == 1 ? by == 0 : by > 0) {
                return false;
            }
        }
        return true;
    }

    int skillFor(int p, int sum, int n) {
        if (!in(p, 0, 9) || noSum(sum) || !in(n, 1, 200)) {
            return tell(Check.BEYOND);
        }
        for (int skill = 1; skill <= 9; skill++) {
            All a = dayWith(sum);
            a.men.get(p).skill = skill;
            if (gone(a, n).men.get(p).out) {
                return skill;
            }
        }
        return tell(Check.NONE);
    }

    int richFor(int n) {
        if (!in(n, 1, 100)) {
            return tell(Check.BEYOND);
        }
        if (now.theSum == -1) {
            return tell(Check.STATE);
        }
        int best = -1;
        for (int rich : new int[] {0, 100, 200, 300, 400, 500, 600, 700, 800, 900, 999}) {
            All a = dayWith(now.theSum);
            a.rich = rich;
            if ((outs(gone(a, n)) & ~mays(a)) == 0) {
                best = rich;
            }
        }
        return best == -1 ? tell(Check.NONE) : best;
    }

    int could(int p, int n) {
        if (!in(p, 0, 9) || !in(n, 1, 480)) {
            return tell(Check.BEYOND);
        }
        int set = 0;
        for (int s = 0; s < now.sums.size(); s++) {
            Sum sum = now.sums.get(s);
            List<Integer> right = solvers(sum, sum.m);
            Man m = dayWith(s).men.get(p);
            for (int i = 0; i < n; i++) {
                stepA(m, sum, right);
            }
            set += m.answer == -1 ? 0 : 1 << s;
        }
        return set;
    }

    int seed(int v) {
        int was = now.z;
        now.z = v;
        return was;
    }

    int hold(int spot, int sum) {
        if (!in(spot, 0, 9) || sum != -1 && noSum(sum)) {
            return tell(Check.BEYOND);
        }
        now.spots[spot] = sum;
        return 1;
    }

    int as(int spot, int kind) {
        if (!in(spot, 0, 9) || !in(kind, 0, 6)) {
            return tell(Check.BEYOND);
        }
        int sum = now.spots[spot];
        if (sum == -1) {
            return tell(Check.MISSING);
        }
        String[] under = {"0123456", "15", "23", "3", "4", "5", "6"};
        return under[kind].indexOf('0' + now.sums.get(sum).kind) >= 0 ? sum : tell(Check.KIND);
    }

    int sheet(int s, int b, int n) {
        if (!in(s, 0, 3) || b != 0 && b != 8 && b != 16 && b != 32) {
            return tell(Check.BEYOND);
        }
        if (n < 0) {
            return tell(Check.SIZE);
        }
        if (n > 40) {
            return tell(Check.BEYOND);
        }
        bits[s] = b;
        sheets[s] = b == 0 ? null : new int[n];
        return b == 0 ? 0 : n;
    }

    int write(int s, int i, int v) {
        if (!in(s, 0, 3)) {
            return tell(Check.BEYOND);
        }
        if (sheets[s] == null) {
            return tell(Check.MISSING);
        }
        if (!in(i, 0, sheets[s].length - 1)) {
            return tell(Check.BEYOND);
        }
        sheets[s][i] = v << 32 - bits[s] >> 32 - bits[s];
        return 1;
    }

    int copy(int s, int from, int t, int to, int n) {
        if (!in(s, 0, 3) || !in(t, 0, 3)) {
            return tell(Check.BEYOND);
        }
        if (sheets[s] == null || sheets[t] == null) {
            return tell(Check.MISSING);
        }
        if (bits[s] != bits[t]) {
            return tell(Check.KIND);
        }
        if (from < 0 || to < 0 || n < 0 || (long) from + n > sheets[s].length || (long) to + n > sheets[t].length) {
            return tell(Check.BEYOND);
        }
        int[] were = sheets[s].clone();
        for (int i = 0; i < n; i++) {
            sheets[t][to + i] = were[from + i];
        }
        return n;
    }

    int load(int s) {
        if (!in(s, 0, 3)) {
            return tell(Check.BEYOND);
        }
        if (sheets[s] == null) {
            return tell(Check.MISSING);
        }
        int came = 0;
        for (int v : sheets[s]) {
            if (came == 10 || !in(v, 1, 9)) {
                break;
            }
            now.men.get(came++).skill = v;
        }
        return came;
    }

    int judge(int s, int sum) {
        if (!in(s, 0, 3)) {
            return tell(Check.BEYOND);
        }
        if (sheets[s] == null) {
            return tell(Check.MISSING);
        }
        if (noSum(sum)) {
            return tell(Check.BEYOND);
        }
        List<Integer> right = solvers(now.sums.get(sum), now.sums.get(sum).m);
        List<Integer> has = new ArrayList<>();
        for (int v : sheets[s]) {
            has.add(v);
        }
        if (has.equals(right)) {
            return 0;
        }
        int n = 0;
        while (n < has.size() && n < right.size() && has.get(n).equals(right.get(n))) {
            n++;
        }
        return 1 + n;
    }

    int image() {
        kept = now.twin();
        return 1;
    }

    int undo() {
        if (kept == null) {
            return tell(Check.NONE);
        }
        now = kept.twin();
        return now.minute;
    }

    int tear() {
        int was = kept == null ? 0 : 1;
        kept = null;
        return was;
    }

    int count(int what) {
        switch (what) {
            case 0: return now.sums.size();
            case 1: return now.theSum;
            case 2: return now.minute;
            case 3: return now.rich;
            case 4: return chalks(now);
            case 5: return tape.length();
            case 6: return now.z;
            case 7: return Integer.bitCount(outs(now));
            default: return tell(Check.BEYOND);
        }
    }

    int status(int which) {
        if (!in(which, -1, 6)) {
            return tell(Check.BEYOND);
        }
        return which == -1 ? Arrays.stream(told).sum() : told[which];
    }
}
