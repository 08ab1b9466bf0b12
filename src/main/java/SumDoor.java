import java.util.Arrays;

/** A gaol whose door is opened by who solves the day's sum; DOC.md tells its promises. */
public final class SumDoor {
    private static final int BEYOND = -1000001;
    private static final int FULL = -1000002;
    private static final int KIND = -1000003;
    private static final int NONE = -1000004;
    private static final int STATE = -1000005;
    private static final int MISSING = -1000006;
    private static final int SIZE = -1000007;
    private static final int FINDINGS = 7;

    private static final int TAPE_MOST = 40;
    private static final int OPEN_MOST = 4;
    private static final int DIGITS_MOST = 3;
    private static final int SUMS_MOST = 8;
    private static final int NUMBERS = 100;
    private static final int M_MOST = 99;

    private static final int LESS = 1;
    private static final int REST = 2;
    private static final int ODD = 3;
    private static final int OTHER = 4;
    private static final int MORE = 5;
    private static final int NEAR = 6;
    /** The kind that each kind stands under; the first stands under none. */
    private static final int[] ABOVE = {-1, 0, 0, 2, 0, 1, 0};

    private static final int PRISONERS = 10;
    private static final int PARTS = 9;
    /** Bounds of the parts that prisoner() may change. */
    private static final int[] PART_LEAST = {1, 0, 0, 0, 0};
    private static final int[] PART_MOST = {9, 999, 99, 19, 1};
    private static final int SKILL_MOST = 9;
    private static final int CHALK_MOST = 999;
    private static final int MINUTE_MOST = 480;
    private static final int LONG_AHEAD = 200;
    private static final int SHORT_AHEAD = 100;
    /** Far above how often HARD can be in WORK. */
    private static final int TRIES_MOST = 1000;

    private static final int SPOTS = 10;
    private static final int SHEETS = 4;
    private static final int SHEET_MOST = 40;

    private final Tape tape = new Tape();
    private final World now = new World();
    private final World kept = new World();
    private final Gaol trial = new Gaol();
    private final Sheet[] sheets = new Sheet[SHEETS];
    private final int[] letsBySum = new int[SUMS_MOST];
    private final int[] told = new int[FINDINGS];
    private boolean isKept = false;

    public SumDoor() {
        for (int s = 0; s < sheets.length; s++) {
            sheets[s] = new Sheet();
        }
    }

    // ---- sums

    public int feed(int bytes, int n) {
        if (!isWithin(n, 1, 4)) {
            return finding(BEYOND);
        }
        if (tape.length + n > TAPE_MOST) {
            return finding(FULL);
        }
        for (int i = n - 1; i >= 0; i--) {
            tape.add((bytes >>> (8 * i)) & 255);
        }
        return tape.length;
    }

    public int wipe() {
        int had = tape.length;
        tape.length = 0;
        return had;
    }

    public int sum(int kind, int m) {
        if (!isKind(kind) || !isWithin(m, 1, M_MOST)) {
            return finding(BEYOND);
        }
        if (now.sums.size >= SUMS_MOST) {
            return finding(FULL);
        }
        int fault = tape.fault();
        int answer = -10 - fault;
        if (fault < 0) {
            answer = now.sums.add(new Text(tape), kind, m);
        }
        tape.length = 0;
        return answer;
    }

    public int sumOf(int sum, int what) {
        if (!isSum(sum)) {
            return finding(BEYOND);
        }
        switch (what) {
            case 0:
                return now.sums.kinds[sum];
            case 1:
                return now.sums.ms[sum];
            case 2:
                return now.sums.hardOf(sum);
            case 3:
                return now.sums.solversOf(sum, now.sums.ms[sum]);
            default:
                return finding(BEYOND);
        }
    }

    public int change(int sum, int what, int v) {
        if (!isSum(sum)) {
            return finding(BEYOND);
        }
        if (what == 0 && isKind(v)) {
            return replace(now.sums.kinds, sum, v);
        }
        if (what == 1 && isWithin(v, 1, M_MOST)) {
            return replace(now.sums.ms, sum, v);
        }
        return finding(BEYOND);
    }

    public int side(int sum, int side, int x) {
        if (!isSum(sum) || !isWithin(side, 0, 1)) {
            return finding(BEYOND);
        }
        return now.sums.sideOf(sum, side, x);
    }

    public int solves(int sum, int x) {
        if (!isSum(sum) || !isNumber(x)) {
            return finding(BEYOND);
        }
        return now.sums.isSolvedBy(sum, x) ? 1 : 0;
    }

    public int solution(int sum, int i) {
        if (!isSum(sum) || !isNumber(i)) {
            return finding(BEYOND);
        }
        int ahead = 0;
        for (int x = 0; x < NUMBERS; x++) {
            if (now.sums.isSolvedBy(sum, x)) {
                if (ahead == i) {
                    return x;
                }
                ahead++;
            }
        }
        return finding(NONE);
    }

    public int both(int one, int other) {
        if (!isSum(one) || !isSum(other)) {
            return finding(BEYOND);
        }
        int many = 0;
        for (int x = 0; x < NUMBERS; x++) {
            if (now.sums.isSolvedBy(one, x) && now.sums.isSolvedBy(other, x)) {
                many++;
            }
        }
        return many;
    }

    public int strict(int sum) {
        if (!isSum(sum)) {
            return finding(BEYOND);
        }
        int best = 0;
        int fewest = NUMBERS + 1;
        for (int m = 1; m <= M_MOST; m++) {
            int many = now.sums.solversOf(sum, m);
            if (many > 0 && many < fewest) {
                best = m;
                fewest = many;
            }
        }
        return best > 0 ? best : finding(NONE);
    }

    // ---- prisoners

    public int prisoner(int prisoner, int what, int v) {
        if (!isPrisoner(prisoner) || !isWithin(what, 0, PART_LEAST.length - 1)
                || !isWithin(v, PART_LEAST[what], PART_MOST[what])) {
            return finding(BEYOND);
        }
        return replace(now.gaol.row(what), prisoner, v);
    }

    public int of(int prisoner, int what) {
        if (!isPrisoner(prisoner) || !isWithin(what, 0, PARTS - 1)) {
            return finding(BEYOND);
        }
        return now.gaol.row(what)[prisoner];
    }

    public int set(int sum) {
        if (sum != -1 && !isSum(sum)) {
            return finding(BEYOND);
        }
        int was = now.gaol.theSum;
        now.gaol.beginDay(sum);
        return was;
    }

    public int rich(int v) {
        if (!isWithin(v, 0, CHALK_MOST)) {
            return finding(BEYOND);
        }
        int was = now.gaol.rich;
        now.gaol.rich = v;
        return was;
    }

    public int alms(int n) {
        if (!isWithin(n, 1, PRISONERS)) {
            return finding(BEYOND);
        }
        for (int i = 0; i < n; i++) {
            now.gaol.give(now.draw() % PRISONERS, 1);
        }
        return now.gaol.allChalk();
    }

    public int school(int one, int other) {
        if (!isPrisoner(one) || !isPrisoner(other) || one == other) {
            return finding(BEYOND);
        }
        int[] skill = now.gaol.skill;
        if (skill[one] == skill[other]) {
            return finding(STATE);
        }
        if (skill[one] < skill[other]) {
            now.gaol.teach(one, other);
        } else {
            now.gaol.teach(other, one);
        }
        return skill[one];
    }

    // ---- minutes

    public int minutes(int n) {
        if (!isWithin(n, 1, SHORT_AHEAD)) {
            return finding(BEYOND);
        }
        if (now.gaol.minute + n > MINUTE_MOST) {
            return finding(STATE);
        }
        int before = Integer.bitCount(now.gaol.outSet());
        now.gaol.goOn(now.sums, n);
        return Integer.bitCount(now.gaol.outSet()) - before;
    }

    public int out() {
        return now.gaol.outSet();
    }

    public int day() {
        int were = Integer.bitCount(now.gaol.outSet());
        now.gaol.beginDay(now.gaol.theSum);
        return were;
    }

    public int ahead(int n, int what) {
        if (!isWithin(n, 0, LONG_AHEAD) || !isWithin(what, 0, 2)) {
            return finding(BEYOND);
        }
        if (now.gaol.minute + n > MINUTE_MOST) {
            return finding(STATE);
        }
        trial.become(now.gaol);
        trial.goOn(now.sums, n);
        if (what == 0) {
            return trial.outSet();
        }
        return what == 1 ? trial.answerSet() : trial.allChalk();
    }

    public int when(int prisoner) {
        if (!isPrisoner(prisoner)) {
            return finding(BEYOND);
        }
        if (now.gaol.isOut[prisoner] != 0 || now.gaol.minute > MINUTE_MOST - LONG_AHEAD) {
            return finding(STATE);
        }
        trial.become(now.gaol);
        for (int n = 1; n <= LONG_AHEAD; n++) {
            trial.goOn(now.sums, 1);
            if (trial.isOut[prisoner] != 0) {
                return n;
            }
        }
        return finding(NONE);
    }

    // ---- choosing

    public int lets(int sum, int n) {
        if (!isSum(sum) || !isWithin(n, 1, LONG_AHEAD)) {
            return finding(BEYOND);
        }
        return letOut(sum, n);
    }

    public int choose(int n) {
        if (!isWithin(n, 1, LONG_AHEAD)) {
            return finding(BEYOND);
        }
        int best = -1;
        int fewest = PRISONERS + 1;
        for (int s = 0; s < now.sums.size; s++) {
            int many = Integer.bitCount(letOut(s, n) ^ now.gaol.maySet());
            if (many < fewest) {
                best = s;
                fewest = many;
            }
        }
        return best >= 0 ? best : finding(NONE);
    }

    public int wrongs(int sum, int n) {
        if (!isSum(sum) || !isWithin(n, 1, LONG_AHEAD)) {
            return finding(BEYOND);
        }
        return Integer.bitCount(letOut(sum, n) ^ now.gaol.maySet());
    }

    public int fewest(int n) {
        if (!isWithin(n, 1, SHORT_AHEAD)) {
            return finding(BEYOND);
        }
        for (int s = 0; s < now.sums.size && s < letsBySum.length; s++) {
            letsBySum[s] = letOut(s, n);
        }
        int best = -1;
        for (int sums = 0; sums < (1 << now.sums.size); sums++) {
            boolean isFewer = best < 0 || Integer.bitCount(sums) < Integer.bitCount(best);
            if (isFewer && letByAny(sums) == now.gaol.maySet()) {
                best = sums;
            }
        }
        return best >= 0 ? best : finding(NONE);
    }

    public int skillFor(int prisoner, int sum, int n) {
        if (!isPrisoner(prisoner) || !isSum(sum) || !isWithin(n, 1, LONG_AHEAD)) {
            return finding(BEYOND);
        }
        for (int skill = 1; skill <= SKILL_MOST; skill++) {
            tryDay(sum);
            trial.skill[prisoner] = skill;
            trial.goOn(now.sums, n);
            if (trial.isOut[prisoner] != 0) {
                return skill;
            }
        }
        return finding(NONE);
    }

    public int richFor(int n) {
        if (!isWithin(n, 1, SHORT_AHEAD)) {
            return finding(BEYOND);
        }
        if (now.gaol.theSum < 0) {
            return finding(STATE);
        }
        for (int hundreds = 10; hundreds >= 0; hundreds--) {
            int rich = Math.min(CHALK_MOST, hundreds * 100);
            if (keepsIn(rich, n)) {
                return rich;
            }
        }
        return finding(NONE);
    }

    public int could(int prisoner, int n) {
        if (!isPrisoner(prisoner) || !isWithin(n, 1, MINUTE_MOST)) {
            return finding(BEYOND);
        }
        int sums = 0;
        for (int s = 0; s < now.sums.size; s++) {
            if (answersAlone(prisoner, s, n)) {
                sums |= 1 << s;
            }
        }
        return sums;
    }

    public int seed(int v) {
        int was = now.z;
        now.z = v;
        return was;
    }

    // ---- spots, sheets

    public int hold(int spot, int sum) {
        if (!isSpot(spot) || (sum != -1 && !isSum(sum))) {
            return finding(BEYOND);
        }
        now.spots[spot] = sum;
        return 1;
    }

    public int as(int spot, int kind) {
        if (!isSpot(spot) || !isKind(kind)) {
            return finding(BEYOND);
        }
        int sum = now.spots[spot];
        if (!isSum(sum)) {
            return finding(MISSING);
        }
        return isUnder(now.sums.kinds[sum], kind) ? sum : finding(KIND);
    }

    public int sheet(int s, int bits, int n) {
        if (!isSheet(s) || (bits != 0 && bits != 8 && bits != 16 && bits != 32)) {
            return finding(BEYOND);
        }
        if (n < 0) {
            return finding(SIZE);
        }
        if (n > SHEET_MOST) {
            return finding(BEYOND);
        }
        sheets[s].begin(bits, bits == 0 ? 0 : n);
        return sheets[s].length;
    }

    public int write(int s, int i, int v) {
        if (!isSheet(s)) {
            return finding(BEYOND);
        }
        Sheet sheet = sheets[s];
        if (sheet.isMissing()) {
            return finding(MISSING);
        }
        if (!isWithin(i, 0, sheet.length - 1)) {
            return finding(BEYOND);
        }
        sheet.put(i, v);
        return 1;
    }

    public int copy(int s, int from, int t, int to, int n) {
        if (!isSheet(s) || !isSheet(t)) {
            return finding(BEYOND);
        }
        Sheet source = sheets[s];
        Sheet target = sheets[t];
        if (source.isMissing() || target.isMissing()) {
            return finding(MISSING);
        }
        if (source.bits != target.bits) {
            return finding(KIND);
        }
        if (!source.hasRun(from, n) || !target.hasRun(to, n)) {
            return finding(BEYOND);
        }
        System.arraycopy(source.numbers, from, target.numbers, to, n);
        return n;
    }

    public int load(int s) {
        if (!isSheet(s)) {
            return finding(BEYOND);
        }
        Sheet sheet = sheets[s];
        if (sheet.isMissing()) {
            return finding(MISSING);
        }
        int came = 0;
        while (came < PRISONERS && came < sheet.length
                && isWithin(sheet.numbers[came], 1, SKILL_MOST)) {
            now.gaol.skill[came] = sheet.numbers[came];
            came++;
        }
        return came;
    }

    public int judge(int s, int sum) {
        if (!isSheet(s)) {
            return finding(BEYOND);
        }
        Sheet sheet = sheets[s];
        if (sheet.isMissing()) {
            return finding(MISSING);
        }
        if (!isSum(sum)) {
            return finding(BEYOND);
        }
        int right = 0;
        for (int x = 0; x < NUMBERS; x++) {
            if (now.sums.isSolvedBy(sum, x)) {
                if (right >= sheet.length || sheet.numbers[right] != x) {
                    return 1 + right;
                }
                right++;
            }
        }
        return right == sheet.length ? 0 : 1 + right;
    }

    // ---- images

    public int image() {
        kept.become(now);
        isKept = true;
        return 1;
    }

    public int undo() {
        if (!isKept) {
            return finding(NONE);
        }
        now.become(kept);
        return now.gaol.minute;
    }

    public int tear() {
        int was = isKept ? 1 : 0;
        isKept = false;
        return was;
    }

    public int count(int what) {
        switch (what) {
            case 0:
                return now.sums.size;
            case 1:
                return now.gaol.theSum;
            case 2:
                return now.gaol.minute;
            case 3:
                return now.gaol.rich;
            case 4:
                return now.gaol.allChalk();
            case 5:
                return tape.length;
            case 6:
                return now.z;
            case 7:
                return Integer.bitCount(now.gaol.outSet());
            default:
                return finding(BEYOND);
        }
    }

    public int status(int which) {
        if (!isWithin(which, -1, FINDINGS - 1)) {
            return finding(BEYOND);
        }
        if (which >= 0) {
            return told[which];
        }
        int all = 0;
        for (int f = 0; f < told.length; f++) {
            all += told[f];
        }
        return all;
    }

    // ---- what the calls share

    /** Counts a finding where it is told: an answer's size alone would not show one (z, a SIDE). */
    private int finding(int which) {
        int place = BEYOND - which;
        if (place >= 0 && place < told.length) {
            told[place]++;
        }
        return which;
    }

    private static boolean isWithin(int v, int least, int most) {
        return v >= least && v <= most;
    }

    private static boolean isKind(int kind) {
        return isWithin(kind, 0, ABOVE.length - 1);
    }

    private static boolean isNumber(int x) {
        return isWithin(x, 0, NUMBERS - 1);
    }

    private static boolean isPrisoner(int prisoner) {
        return isWithin(prisoner, 0, PRISONERS - 1);
    }

    private static boolean isSpot(int spot) {
        return isWithin(spot, 0, SPOTS - 1);
    }

    private boolean isSum(int sum) {
        return now.sums.has(sum);
    }

    private boolean isSheet(int s) {
        return isWithin(s, 0, SHEETS - 1) && sheets[s] != null;
    }

    private static boolean isUnder(int kind, int wanted) {
        int at = kind;
        for (int step = 0; step < ABOVE.length && at >= 0 && at < ABOVE.length; step++) {
            if (at == wanted) {
                return true;
            }
            at = ABOVE[at];
        }
        return false;
    }

    private static int replace(int[] row, int i, int v) {
        if (!isWithin(i, 0, row.length - 1)) {
            return 0;
        }
        int was = row[i];
        row[i] = v;
        return was;
    }

    private void tryDay(int sum) {
        trial.become(now.gaol);
        trial.beginDay(sum);
    }

    private int letOut(int sum, int n) {
        tryDay(sum);
        trial.goOn(now.sums, n);
        return trial.outSet();
    }

    private int letByAny(int sums) {
        int all = 0;
        for (int s = 0; s < letsBySum.length; s++) {
            if ((sums >> s & 1) == 1) {
                all |= letsBySum[s];
            }
        }
        return all;
    }

    private boolean keepsIn(int rich, int n) {
        tryDay(now.gaol.theSum);
        trial.rich = rich;
        trial.goOn(now.sums, n);
        return (trial.outSet() & ~now.gaol.maySet()) == 0;
    }

    private boolean answersAlone(int prisoner, int sum, int n) {
        tryDay(sum);
        int hard = now.sums.hardOf(sum);
        for (int i = 0; i < n && trial.answer[prisoner] < 0; i++) {
            trial.workOn(prisoner, now.sums, hard);
        }
        return trial.answer[prisoner] >= 0;
    }

    /** THE TAPE. */
    private static final class Tape {
        private final int[] bytes = new int[TAPE_MOST];
        private int length = 0;
        private boolean wantsOperand;
        private int digits;
        private int open;
        private boolean isParted;

        private void add(int b) {
            if (length >= 0 && length < bytes.length) {
                bytes[length] = b;
                length++;
            }
        }

        /** The FAULT, or -1 if what is on THE TAPE is a TEXT. */
        private int fault() {
            wantsOperand = true;
            digits = 0;
            open = 0;
            isParted = false;
            for (int i = 0; i < length && i < bytes.length; i++) {
                int b = bytes[i];
                if (!(wantsOperand ? beginsOperand(b) : followsOperand(b))) {
                    return i;
                }
            }
            return wantsOperand || open > 0 || !isParted ? length : -1;
        }

        private boolean beginsOperand(int b) {
            if (b == '(') {
                open++;
                return open <= OPEN_MOST;
            }
            digits = isDigit(b) ? 1 : 0;
            wantsOperand = false;
            return b == 'x' || isDigit(b);
        }

        private boolean followsOperand(int b) {
            if (isDigit(b)) {
                digits++;
                return digits > 1 && digits <= DIGITS_MOST;
            }
            digits = 0;
            if (b == ')') {
                open--;
                return open >= 0;
            }
            wantsOperand = true;
            if (b == '=') {
                boolean isFirst = !isParted;
                isParted = true;
                return isFirst && open == 0;
            }
            return isOperator(b);
        }

        private static boolean isDigit(int b) {
            return b >= '0' && b <= '9';
        }

        private static boolean isOperator(int b) {
            return b == '+' || b == '-' || b == '*' || b == '/' || b == '%';
        }
    }

    /** A TEXT as it was read: it never changes, so images share it. */
    private static final class Text {
        private final Side left;
        private final Side right;
        /** The SIDES for each NUMBER, worked once: all that asks who SOLVES looks here. */
        private final int[] lefts = new int[NUMBERS];
        private final int[] rights = new int[NUMBERS];
        private final int marks;

        private Text(Tape tape) {
            int parting = 0;
            int many = 0;
            for (int i = 0; i < tape.length && i < tape.bytes.length; i++) {
                int b = tape.bytes[i];
                if (b == '=') {
                    parting = i;
                }
                if (b == 'x' || Tape.isDigit(b) || Tape.isOperator(b)) {
                    many++;
                }
            }
            marks = many;
            left = new Side(tape.bytes, 0, parting);
            right = new Side(tape.bytes, parting + 1, tape.length);
            for (int x = 0; x < NUMBERS; x++) {
                lefts[x] = left.worth(x);
                rights[x] = right.worth(x);
            }
        }
    }

    /** A SIDE as steps in the order of working: what is 0 or above is put on a pile, the rest are signs. */
    private static final class Side {
        private final int[] steps = new int[TAPE_MOST];
        private int length = 0;
        /** Waiting signs while it is read, half-worked values while it is worked. */
        private final int[] pile = new int[TAPE_MOST];
        private int height = 0;

        private Side(int[] bytes, int from, int end) {
            boolean isInNumber = false;
            for (int i = Math.max(0, from); i < end && i < bytes.length; i++) {
                int b = bytes[i];
                if (!Tape.isDigit(b)) {
                    takeSign(b);
                } else if (isInNumber) {
                    lengthenNumber(b - '0');
                } else {
                    addStep(b - '0');
                }
                isInNumber = Tape.isDigit(b);
            }
            takeWaiting(1);
        }

        private void takeSign(int b) {
            if (b == 'x') {
                addStep(-b);
            } else if (b == '(') {
                push(b);
            } else if (b == ')') {
                takeWaiting(1);
                height = Math.max(0, height - 1);
            } else {
                takeWaiting(rank(b));
                push(b);
            }
        }

        private void takeWaiting(int leastRank) {
            while (height > 0 && height <= pile.length && rank(pile[height - 1]) >= leastRank) {
                height--;
                addStep(-pile[height]);
            }
        }

        private static int rank(int sign) {
            if (sign == '(') {
                return 0;
            }
            return sign == '+' || sign == '-' ? 1 : 2;
        }

        private void addStep(int step) {
            if (length >= 0 && length < steps.length) {
                steps[length] = step;
                length++;
            }
        }

        private void lengthenNumber(int digit) {
            if (length > 0 && length <= steps.length) {
                steps[length - 1] = steps[length - 1] * 10 + digit;
            }
        }

        private void push(int v) {
            if (height >= 0 && height < pile.length) {
                pile[height] = v;
                height++;
            }
        }

        private int worth(int x) {
            height = 0;
            for (int i = 0; i < length && i < steps.length; i++) {
                int step = steps[i];
                if (step >= 0) {
                    push(step);
                } else if (step == -'x') {
                    push(x);
                } else if (height >= 2 && height <= pile.length) {
                    height--;
                    pile[height - 1] = joined(-step, pile[height - 1], pile[height]);
                }
            }
            return pile[0];
        }

        private static int joined(int sign, int a, int b) {
            switch (sign) {
                case '+':
                    return a + b;
                case '-':
                    return a - b;
                case '*':
                    return a * b;
                case '/':
                    return b == 0 ? 0 : a / b;
                default:
                    return b == 0 ? 0 : a % b;
            }
        }
    }

    /** The SUMS. */
    private static final class Sums {
        private final Text[] texts = new Text[SUMS_MOST];
        private final int[] kinds = new int[SUMS_MOST];
        private final int[] ms = new int[SUMS_MOST];
        private int size = 0;

        private boolean has(int sum) {
            return sum >= 0 && sum < size && sum < texts.length && texts[sum] != null;
        }

        private int add(Text text, int kind, int m) {
            int number = size;
            if (number >= 0 && number < texts.length) {
                texts[number] = text;
                kinds[number] = kind;
                ms[number] = m;
                size = number + 1;
            }
            return number;
        }

        private void become(Sums other) {
            for (int s = 0; s < texts.length; s++) {
                texts[s] = other.texts[s];
                kinds[s] = other.kinds[s];
                ms[s] = other.ms[s];
            }
            size = other.size;
        }

        private int hardOf(int sum) {
            if (!has(sum)) {
                return 0;
            }
            int marks = texts[sum].marks;
            if (isUnder(kinds[sum], LESS)) {
                return marks + marks / 2;
            }
            return kinds[sum] == ODD ? marks + 5 : marks;
        }

        private int sideOf(int sum, int side, int x) {
            if (!has(sum)) {
                return 0;
            }
            return side == 0 ? texts[sum].left.worth(x) : texts[sum].right.worth(x);
        }

        private boolean isSolvedBy(int sum, int x) {
            return has(sum) && isSolvedWith(sum, x, ms[sum]);
        }

        private int solversOf(int sum, int m) {
            int many = 0;
            for (int x = 0; x < NUMBERS; x++) {
                if (isSolvedWith(sum, x, m)) {
                    many++;
                }
            }
            return many;
        }

        private boolean isSolvedWith(int sum, int x, int m) {
            if (!has(sum) || x < 0 || x >= NUMBERS) {
                return false;
            }
            int l = texts[sum].lefts[x];
            int r = texts[sum].rights[x];
            switch (kinds[sum]) {
                case LESS:
                    return l < r;
                case REST:
                    return isMultiple(l - r, m);
                case ODD:
                    return isMultiple(l - r, m) && x % 2 == 1;
                case OTHER:
                    return l != r;
                case MORE:
                    return l > r;
                case NEAR:
                    return isWithin(l - r, -m, m);
                default:
                    return l == r;
            }
        }

        private static boolean isMultiple(int v, int m) {
            return m != 0 && v % m == 0;
        }
    }

    /** The PRISONERS, THE SUM, RICH and MINUTE. */
    private static final class Gaol {
        private final int[] skill = new int[PRISONERS];
        private final int[] chalk = new int[PRISONERS];
        private final int[] price = new int[PRISONERS];
        private final int[] cell = new int[PRISONERS];
        private final int[] may = new int[PRISONERS];
        private final int[] number = new int[PRISONERS];
        private final int[] answer = new int[PRISONERS];
        private final int[] work = new int[PRISONERS];
        private final int[] isOut = new int[PRISONERS];
        private int theSum = -1;
        private int rich = CHALK_MOST;
        private int minute = 0;
        private boolean isMoved = false;

        private Gaol() {
            Arrays.fill(skill, 3);
            Arrays.fill(chalk, 50);
            Arrays.fill(price, 10);
            Arrays.fill(may, 1);
            Arrays.fill(answer, -1);
            for (int p = 0; p < PRISONERS; p++) {
                cell[p] = p;
            }
        }

        private int[] row(int what) {
            switch (what) {
                case 0:
                    return skill;
                case 1:
                    return chalk;
                case 2:
                    return price;
                case 3:
                    return cell;
                case 4:
                    return may;
                case 5:
                    return number;
                case 6:
                    return answer;
                case 7:
                    return work;
                default:
                    return isOut;
            }
        }

        private void become(Gaol other) {
            for (int what = 0; what < PARTS; what++) {
                System.arraycopy(other.row(what), 0, row(what), 0, PRISONERS);
            }
            theSum = other.theSum;
            rich = other.rich;
            minute = other.minute;
        }

        private void beginDay(int sum) {
            theSum = sum;
            minute = 0;
            Arrays.fill(number, 0);
            Arrays.fill(work, 0);
            Arrays.fill(answer, -1);
            Arrays.fill(isOut, 0);
        }

        private int outSet() {
            return setOf(isOut, 1);
        }

        private int maySet() {
            return setOf(may, 1);
        }

        private int answerSet() {
            return setOf(answer, 0);
        }

        private static int setOf(int[] row, int least) {
            int all = 0;
            for (int p = 0; p < row.length; p++) {
                if (row[p] >= least) {
                    all |= 1 << p;
                }
            }
            return all;
        }

        private int allChalk() {
            int all = 0;
            for (int p = 0; p < PRISONERS; p++) {
                all += chalk[p];
            }
            return all;
        }

        private void give(int p, int much) {
            if (isPrisoner(p)) {
                chalk[p] = Math.min(CHALK_MOST, chalk[p] + much);
            }
        }

        private void teach(int learner, int teacher) {
            if (isPrisoner(learner) && isPrisoner(teacher)) {
                skill[learner]++;
                chalk[teacher] = Math.max(0, chalk[teacher] - 2);
            }
        }

        /**
         * Lets n MINUTES go. Behind one that changed nobody no other will, so only MINUTE counts on;
         * while nobody inside has an ANSWER, nobody need ask for one.
         */
        private void goOn(Sums sums, int n) {
            int hard = sums.hardOf(theSum);
            isMoved = sums.has(theSum);
            for (int i = 0; i < n && isMoved; i++) {
                isMoved = false;
                int speakers = answerSet() & ~outSet();
                for (int p = 0; p < PRISONERS; p++) {
                    workOn(p, sums, hard);
                }
                int sellers = answerSet() & ~outSet();
                for (int p = 0; p < PRISONERS && sellers != 0; p++) {
                    buy(p);
                }
                for (int p = 0; p < PRISONERS && speakers != 0; p++) {
                    readLips(p, speakers);
                }
                for (int p = 0; p < PRISONERS && sellers != 0; p++) {
                    goOut(p);
                }
            }
            minute += n;
        }

        private boolean seeks(int p) {
            return p >= 0 && p < PRISONERS && isOut[p] == 0 && answer[p] < 0;
        }

        private boolean sells(int p) {
            return p >= 0 && p < PRISONERS && isOut[p] == 0 && answer[p] >= 0;
        }

        private void workOn(int p, Sums sums, int hard) {
            if (!seeks(p) || chalk[p] == 0 || hard <= 0) {
                return;
            }
            isMoved = true;
            chalk[p]--;
            work[p] += skill[p];
            for (int tries = 0; tries < TRIES_MOST && work[p] >= hard && answer[p] < 0; tries++) {
                work[p] -= hard;
                if (sums.isSolvedBy(theSum, number[p])) {
                    answer[p] = number[p];
                } else {
                    number[p] = number[p] >= NUMBERS - 1 ? 0 : number[p] + 1;
                }
            }
        }

        private void buy(int p) {
            if (!seeks(p)) {
                return;
            }
            int seller = cheapest();
            if (seller < 0 || chalk[p] < price[seller]) {
                return;
            }
            isMoved = true;
            chalk[p] -= price[seller];
            give(seller, price[seller]);
            answer[p] = answer[seller];
        }

        private int cheapest() {
            int best = -1;
            for (int p = 0; p < PRISONERS; p++) {
                if (sells(p) && (best < 0 || price[p] < price[best])) {
                    best = p;
                }
            }
            return best;
        }

        private void readLips(int p, int speakers) {
            if (!seeks(p)) {
                return;
            }
            int speaker = firstIn(cell[p] - 1, speakers);
            if (speaker < 0) {
                speaker = firstIn(cell[p] + 1, speakers);
            }
            if (speaker >= 0) {
                isMoved = true;
                answer[p] = answer[speaker];
            }
        }

        private int firstIn(int where, int speakers) {
            for (int p = 0; p < PRISONERS; p++) {
                if (cell[p] == where && (speakers >> p & 1) == 1) {
                    return p;
                }
            }
            return -1;
        }

        private void goOut(int p) {
            if (sells(p) && chalk[p] <= rich) {
                isMoved = true;
                isOut[p] = 1;
            }
        }
    }

    /** All that an image keeps. */
    private static final class World {
        private final Sums sums = new Sums();
        private final Gaol gaol = new Gaol();
        private final int[] spots = new int[SPOTS];
        private int z = 1;

        private World() {
            Arrays.fill(spots, -1);
        }

        private void become(World other) {
            sums.become(other.sums);
            gaol.become(other.gaol);
            System.arraycopy(other.spots, 0, spots, 0, SPOTS);
            z = other.z;
        }

        private int draw() {
            z = z * 1103515245 + 12345;
            return z >>> 8;
        }
    }

    /** A SHEET; of no bits it is MISSING. */
    private static final class Sheet {
        private final int[] numbers = new int[SHEET_MOST];
        private int bits = 0;
        private int length = 0;

        private boolean isMissing() {
            return bits == 0;
        }

        private void begin(int newBits, int newLength) {
            bits = newBits;
            length = newLength;
            Arrays.fill(numbers, 0);
        }

        private void put(int i, int v) {
            if (i >= 0 && i < length && i < numbers.length) {
                numbers[i] = cut(v);
            }
        }

        private int cut(int v) {
            if (bits == 8) {
                return (byte) v;
            }
            return bits == 16 ? (short) v : v;
        }

        private boolean hasRun(int from, int n) {
            return from >= 0 && n >= 0 && from <= length && n <= length - from;
        }
    }
}
