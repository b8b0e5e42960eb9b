import java.util.ArrayList;
import java.util.Arrays;
import java.util.HashMap;
import java.util.LinkedHashMap;
import java.util.List;
import java.util.Map;
import java.util.TreeSet;

/**
 * The document once more, written the slow way and apart from the program, so that random runs of calls can be
 * compared. Beings are lists, searches are maps, bodies of voices stand in a table, TEXTS are split at their signs.
 */
final class Model {
    private static final int[][] PAIRS = {{0, 0}, {0, 1}, {0, 2}, {1, 1}, {1, 2}, {2, 2}};
    private static final int[] ABOVE = {-1, 0, 0, 0, 1, 2, 3};
    private static final String[] NAMES = {"abm", "abkt"};

    /** What an IMAGE keeps. */
    private static final class Kept {
        int[] counts = new int[3];
        int[] kinds = {1, 1, 1, 1, 1, 1};
        int[] ms = new int[6];
        boolean[] fenced = new boolean[6];
        String[] texts = new String[2];
        List<Integer> tape = new ArrayList<>();
        List<Integer> waiting = new ArrayList<>();
        int met;
        int spent;
        int z = 1;

        Kept copy() {
            Kept other = new Kept();
            other.counts = counts.clone();
            other.kinds = kinds.clone();
            other.ms = ms.clone();
            other.fenced = fenced.clone();
            other.texts = texts.clone();
            other.tape = new ArrayList<>(tape);
            other.waiting = new ArrayList<>(waiting);
            other.met = met;
            other.spent = spent;
            other.z = z;
            return other;
        }
    }

    private Kept now = new Kept();
    private Kept image;
    private int images;
    private final int[] told = new int[6];
    private final List<Integer> trace = new ArrayList<>();
    private final int[][] sheets = new int[4][];
    private final int[] bits = new int[4];

    private int error(int answer) {
        told[-1000000000 - answer]++;
        return answer;
    }

    // ---- beings, laws

    private static int stateOf(int[] counts) {
        return counts[0] * 169 + counts[1] * 13 + counts[2];
    }

    private static boolean isState(int state) {
        for (int[] counts : allCounts()) {
            if (stateOf(counts) == state) {
                return true;
            }
        }
        return false;
    }

    private static List<int[]> allCounts() {
        List<int[]> all = new ArrayList<>();
        for (int a = 0; a <= 12; a++) {
            for (int b = 0; a + b <= 12; b++) {
                for (int c = 0; a + b + c <= 12; c++) {
                    all.add(new int[] {a, b, c});
                }
            }
        }
        return all;
    }

    private static int sum(int[] counts) {
        return counts[0] + counts[1] + counts[2];
    }

    private static int[] countsOf(int state) {
        return new int[] {state / 169, state % 169 / 13, state % 13};
    }

    int be(int sort, int v) {
        if (sort < 0 || sort > 2 || v < 0 || v > 12) {
            return error(Due.BEYOND);
        }
        int[] then = now.counts.clone();
        then[sort] = v;
        if (sum(then) > 12) {
            return error(Due.FULL);
        }
        int was = now.counts[sort];
        now.counts = then;
        return was;
    }

    int of(int sort) {
        return sort < 0 || sort > 2 ? error(Due.BEYOND) : now.counts[sort];
    }

    int law(int pair, int km) {
        if (pair < 0 || pair > 5 || km < 0 || km > 69) {
            return error(Due.BEYOND);
        }
        int was = now.kinds[pair] * 10 + now.ms[pair];
        now.kinds[pair] = km / 10;
        now.ms[pair] = km % 10;
        return was;
    }

    int fence(int pair, int v) {
        if (pair < 0 || pair > 5 || v < 0 || v > 1) {
            return error(Due.BEYOND);
        }
        int was = now.fenced[pair] ? 1 : 0;
        now.fenced[pair] = v == 1;
        return was;
    }

    private List<Integer> comes(int pair) {
        int a = PAIRS[pair][0];
        int b = PAIRS[pair][1];
        int m = now.ms[pair];
        switch (now.kinds[pair]) {
            case 0: return List.of(a, b);
            case 1: return a == b ? List.of(a, b) : List.of(3 - a - b, 3 - a - b);
            case 2: return List.of(b);
            case 3: return List.of(a, b, m % 3);
            case 4: return List.of(b, b);
            case 5: return List.of((a + b + m) % 3);
            default:
                int given = give(0, a, b, m, 0);
                return m > 4 ? List.of(given, given, m % 3) : List.of(given, given);
        }
    }

    /** The COUNTS behind a MEETING, or null. */
    private int[] after(int[] counts, int pair, boolean[] fenced) {
        if (fenced[pair]) {
            return null;
        }
        int[] then = counts.clone();
        then[PAIRS[pair][0]]--;
        then[PAIRS[pair][1]]--;
        if (then[0] < 0 || then[1] < 0 || then[2] < 0) {
            return null;
        }
        for (int sort : comes(pair)) {
            then[sort]++;
        }
        return sum(then) > 12 ? null : then;
    }

    int ofPair(int pair, int what) {
        if (pair < 0 || pair > 5 || what < 0 || what > 7) {
            return error(Due.BEYOND);
        }
        List<Integer> comes = comes(pair);
        switch (what) {
            case 0: return now.kinds[pair];
            case 1: return now.ms[pair];
            case 2: return now.fenced[pair] ? 1 : 0;
            case 3: return after(now.counts, pair, now.fenced) == null ? 0 : 1;
            case 4: return comes.size();
            default: return what - 5 < comes.size() ? comes.get(what - 5) : -1;
        }
    }

    int as(int pair, int kind) {
        if (pair < 0 || pair > 5 || kind < 0 || kind > 6) {
            return error(Due.BEYOND);
        }
        for (int k = now.kinds[pair]; k >= 0; k = ABOVE[k]) {
            if (k == kind) {
                return now.ms[pair];
            }
        }
        return error(Due.KIND);
    }

    // ---- texts

    int feed(long word, int n) {
        if (n < 1 || n > 8) {
            return error(Due.BEYOND);
        }
        if (now.tape.size() + n > 50) {
            return error(Due.FULL);
        }
        for (int i = 0; i < n; i++) {
            now.tape.add((int) (word & 255));
            word >>>= 8;
        }
        return now.tape.size();
    }

    int text(int use) {
        if (use < 0 || use > 1) {
            return error(Due.BEYOND);
        }
        StringBuilder text = new StringBuilder();
        for (int sign : now.tape) {
            text.append((char) sign);
        }
        now.tape.clear();
        int fault = fault(text.toString(), NAMES[use]);
        if (fault >= 0) {
            return -10 - fault;
        }
        now.texts[use] = text.toString();
        return 1;
    }

    /** Goes sign by sign with what stands open: ! and (, and whether a comparison stands in each ( ). */
    static int fault(String text, String names) {
        List<Character> open = new ArrayList<>();
        List<Boolean> compared = new ArrayList<>(List.of(false));
        boolean wants = true;
        int digits = 0;
        for (int i = 0; i < text.length(); i++) {
            char sign = text.charAt(i);
            boolean digit = sign >= '0' && sign <= '9';
            if (wants) {
                if (sign == '!' || sign == '(') {
                    if (open.size() == 5) {
                        return i;
                    }
                    open.add(sign);
                    if (sign == '(') {
                        compared.add(false);
                    }
                    continue;
                }
                if (!digit && names.indexOf(sign) < 0) {
                    return i;
                }
                wants = false;
                digits = digit ? 1 : 9;
            } else if (digit) {
                digits++;
                if (digits > 4) {
                    return i;
                }
            } else {
                digits = 9;
                int last = compared.size() - 1;
                if (sign == ')') {
                    if (last == 0) {
                        return i;
                    }
                    compared.remove(last);
                    open.remove(open.size() - 1);
                } else if ("|&".indexOf(sign) >= 0) {
                    compared.set(last, false);
                    wants = true;
                } else if ("<=>".indexOf(sign) >= 0) {
                    if (compared.get(last)) {
                        return i;
                    }
                    compared.set(last, true);
                    wants = true;
                } else if ("+-*/%".indexOf(sign) >= 0) {
                    wants = true;
                } else {
                    return i;
                }
            }
            if (!wants) {
                while (!open.isEmpty() && open.get(open.size() - 1) == '!') {
                    open.remove(open.size() - 1);
                }
            }
        }
        return wants || !open.isEmpty() ? text.length() : -1;
    }

    /** Splits a TEXT at the last sign of the weakest level that stands in no ( ). */
    static int worth(String text, String names, int[] values) {
        for (String signs : new String[] {"|", "&", "<=>", "+-", "*/%"}) {
            int depth = 0;
            for (int i = text.length() - 1; i >= 0; i--) {
                char sign = text.charAt(i);
                depth += sign == ')' ? 1 : sign == '(' ? -1 : 0;
                if (depth == 0 && signs.indexOf(sign) >= 0) {
                    int left = worth(text.substring(0, i), names, values);
                    int right = worth(text.substring(i + 1), names, values);
                    return join(sign, left, right);
                }
            }
        }
        char first = text.charAt(0);
        if (first == '!') {
            return worth(text.substring(1), names, values) == 0 ? 1 : 0;
        }
        if (first == '(') {
            return worth(text.substring(1, text.length() - 1), names, values);
        }
        int name = names.indexOf(first);
        return name >= 0 ? values[name] : Integer.parseInt(text);
    }

    private static int join(char sign, int left, int right) {
        switch (sign) {
            case '|': return (left == 0 ? 0 : 1) | (right == 0 ? 0 : 1);
            case '&': return (left == 0 ? 0 : 1) & (right == 0 ? 0 : 1);
            case '<': return left < right ? 1 : 0;
            case '=': return left == right ? 1 : 0;
            case '>': return left > right ? 1 : 0;
            case '+': return (int) ((long) left + right);
            case '-': return (int) ((long) left - right);
            case '*': return (int) ((long) left * right);
            case '/': return right == 0 ? 0 : (int) ((long) left / right);
            default: return right == 0 ? 0 : (int) ((long) left % right);
        }
    }

    private int give(int use, int a, int b, int c, int d) {
        String text = now.texts[use];
        if (use == 0) {
            int rest = worth(text == null ? "a+b+m" : text, "abm", new int[] {a, b, c}) % 3;
            return rest < 0 ? 0 : rest;
        }
        int price = worth(text == null ? "1" : text, "abkt", new int[] {a, b, c, d});
        return price > 99 ? 99 : price < -99 ? -99 : price;
    }

    int gives(int use, int a, int b, int c, int d) {
        return use < 0 || use > 1 ? error(Due.BEYOND) : give(use, a, b, c, d);
    }

    // ---- meetings

    private void happen(int pair, int[] then) {
        now.spent += give(1, PAIRS[pair][0], PAIRS[pair][1], now.kinds[pair], now.met);
        now.spent = now.spent > 99999 ? 99999 : now.spent < -99999 ? -99999 : now.spent;
        now.met++;
        now.counts = then;
    }

    int meet(int pair) {
        if (pair < 0 || pair > 5) {
            return error(Due.BEYOND);
        }
        int[] then = after(now.counts, pair, now.fenced);
        if (then == null || now.met == 9999) {
            return error(Due.STATE);
        }
        happen(pair, then);
        return stateOf(then);
    }

    int chance(int n) {
        if (n < 1 || n > 60) {
            return error(Due.BEYOND);
        }
        if (now.met + n > 9999) {
            return error(Due.STATE);
        }
        for (int i = 0; i < n; i++) {
            List<Integer> beings = beings(now.counts);
            if (beings.size() < 2) {
                continue;
            }
            int one = beings.remove(draw() % beings.size());
            int other = beings.remove(draw() % beings.size());
            int pair = pairOf(one, other);
            int[] then = after(now.counts, pair, now.fenced);
            if (then != null) {
                happen(pair, then);
            }
        }
        return stateOf(now.counts);
    }

    private int draw() {
        now.z = now.z * 1103515245 + 12345;
        return now.z >>> 8;
    }

    private static List<Integer> beings(int[] counts) {
        List<Integer> beings = new ArrayList<>();
        for (int sort = 0; sort < 3; sort++) {
            for (int i = 0; i < counts[sort]; i++) {
                beings.add(sort);
            }
        }
        return beings;
    }

    private static int pairOf(int one, int other) {
        for (int pair = 0; pair < 6; pair++) {
            if (Arrays.equals(PAIRS[pair], new int[] {Math.min(one, other), Math.max(one, other)})) {
                return pair;
            }
        }
        throw new IllegalStateException();
    }

    // ---- what can be

    /** All STATES that can be reached, with the fewest MEETINGS. */
    private Map<Integer, Integer> reach(int from, boolean[] fenced) {
        Map<Integer, Integer> far = new LinkedHashMap<>();
        far.put(from, 0);
        List<Integer> level = List.of(from);
        for (int n = 1; !level.isEmpty(); n++) {
            List<Integer> next = new ArrayList<>();
            for (int state : level) {
                for (int pair = 0; pair < 6; pair++) {
                    int[] then = after(countsOf(state), pair, fenced);
                    if (then != null && !far.containsKey(stateOf(then))) {
                        far.put(stateOf(then), n);
                        next.add(stateOf(then));
                    }
                }
            }
            level = next;
        }
        return far;
    }

    private Map<Integer, Integer> reachNow() {
        return reach(stateOf(now.counts), now.fenced);
    }

    int reach(int state) {
        if (!isState(state)) {
            return error(Due.BEYOND);
        }
        Integer far = reachNow().get(state);
        return far == null ? error(Due.NONE) : far;
    }

    /** Of the PAIRS that lead nearer always the least: the first row. */
    int way(int state, int i) {
        if (!isState(state) || i < 0) {
            return error(Due.BEYOND);
        }
        Integer far = reachNow().get(state);
        if (far == null || i >= far) {
            return error(Due.NONE);
        }
        int[] at = now.counts;
        for (int step = 0;; step++) {
            for (int pair = 0; pair < 6; pair++) {
                int[] then = after(at, pair, now.fenced);
                Integer left = then == null ? null : reach(stateOf(then), now.fenced).get(state);
                if (left != null && left == far - step - 1) {
                    if (step == i) {
                        return pair;
                    }
                    at = then;
                    break;
                }
            }
        }
    }

    private static boolean isEnd(int state, int sort) {
        int[] counts = countsOf(state);
        return counts[sort] > 0 && counts[sort] == sum(counts);
    }

    int can(int sort, int what) {
        if (sort < 0 || sort > 2 || what < 0 || what > 1) {
            return error(Due.BEYOND);
        }
        int best = -1;
        int least = -1;
        for (Map.Entry<Integer, Integer> entry : reachNow().entrySet()) {
            int far = entry.getValue();
            if (isEnd(entry.getKey(), sort) && (best < 0 || far < best || far == best && entry.getKey() < least)) {
                best = far;
                least = entry.getKey();
            }
        }
        return best < 0 ? error(Due.NONE) : what == 0 ? best : least;
    }

    int reached() {
        return reachNow().size();
    }

    private List<int[]> keepers(int k) {
        List<int[]> keepers = new ArrayList<>();
        for (int code = 0; code < k * k * k; code++) {
            int[] w = {code / k / k, code / k % k, code % k};
            boolean keeps = true;
            for (int pair = 0; pair < 6; pair++) {
                int sum = -w[PAIRS[pair][0]] - w[PAIRS[pair][1]];
                for (int sort : comes(pair)) {
                    sum += w[sort];
                }
                keeps &= now.fenced[pair] || Math.floorMod(sum, k) == 0;
            }
            if (keeps) {
                keepers.add(w);
            }
        }
        return keepers;
    }

    int stays(int k, int what) {
        if (k < 2 || k > 5 || what < -1) {
            return error(Due.BEYOND);
        }
        List<int[]> keepers = keepers(k);
        if (what == -1) {
            return keepers.size();
        }
        if (what >= keepers.size() - 1) {
            return error(Due.NONE);
        }
        int[] w = keepers.get(what + 1);
        return (w[0] * k + w[1]) * k + w[2];
    }

    int bars(int sort, int k) {
        if (sort < 0 || sort > 2 || k < 2 || k > 5) {
            return error(Due.BEYOND);
        }
        if (sum(now.counts) == 0) {
            return error(Due.STATE);
        }
        for (int[] w : keepers(k)) {
            int here = w[0] * now.counts[0] + w[1] * now.counts[1] + w[2] * now.counts[2];
            if (here % k != w[sort] * sum(now.counts) % k) {
                return 1;
            }
        }
        return 0;
    }

    /** In how many ways each STATE comes of n MEETINGS, each being taken by itself. */
    private Map<Integer, Long> waysOf(int n) {
        Map<Integer, Long> ways = new HashMap<>();
        ways.put(stateOf(now.counts), 1L);
        for (int i = 0; i < n; i++) {
            Map<Integer, Long> next = new HashMap<>();
            for (Map.Entry<Integer, Long> entry : ways.entrySet()) {
                List<Integer> beings = beings(countsOf(entry.getKey()));
                for (int one = 0; one < beings.size(); one++) {
                    for (int other = one + 1; other < beings.size(); other++) {
                        int pair = pairOf(beings.get(one), beings.get(other));
                        int[] then = after(countsOf(entry.getKey()), pair, now.fenced);
                        if (then != null) {
                            next.merge(stateOf(then), entry.getValue(), Long::sum);
                        }
                    }
                }
            }
            ways = next;
        }
        return ways;
    }

    long ways(int n, int state) {
        return n < 0 || n > 6 || !isState(state) ? error(Due.BEYOND) : waysOf(n).getOrDefault(state, 0L);
    }

    long allWays(int n) {
        if (n < 0 || n > 6) {
            return error(Due.BEYOND);
        }
        long all = 0;
        for (long ways : waysOf(n).values()) {
            all += ways;
        }
        return all;
    }

    int fences(int sort, int what) {
        if (sort < 0 || sort > 2 || what < 0 || what > 1) {
            return error(Due.BEYOND);
        }
        int from = stateOf(now.counts);
        if (isEnd(from, sort)) {
            return error(Due.NONE);
        }
        for (int many = 0; many <= 6; many++) {
            for (int set = 0; set < 64; set++) {
                boolean[] fenced = now.fenced.clone();
                boolean more = Integer.bitCount(set) == many;
                for (int pair = 0; pair < 6; pair++) {
                    if ((set >> pair & 1) == 1) {
                        more &= !fenced[pair];
                        fenced[pair] = true;
                    }
                }
                if (more && reach(from, fenced).keySet().stream().noneMatch(state -> isEnd(state, sort))) {
                    return what == 0 ? many : set;
                }
            }
        }
        throw new IllegalStateException();
    }

    int was(int n, int what) {
        if (n < 0 || n > 6 || what < 0 || what > 1) {
            return error(Due.BEYOND);
        }
        TreeSet<Integer> from = new TreeSet<>();
        Map<Integer, Boolean> known = new HashMap<>();
        for (int[] counts : allCounts()) {
            if (leads(counts, n, known)) {
                from.add(stateOf(counts));
            }
        }
        return what == 0 ? from.size() : from.isEmpty() ? error(Due.NONE) : from.first();
    }

    private boolean leads(int[] counts, int n, Map<Integer, Boolean> known) {
        if (n == 0) {
            return Arrays.equals(counts, now.counts);
        }
        int key = stateOf(counts) * 7 + n;
        if (!known.containsKey(key)) {
            boolean leads = false;
            for (int pair = 0; pair < 6; pair++) {
                int[] then = after(counts, pair, now.fenced);
                leads |= then != null && leads(then, n - 1, known);
            }
            known.put(key, leads);
        }
        return known.get(key);
    }

    int force(int sort) {
        if (sort < 0 || sort > 2) {
            return error(Due.BEYOND);
        }
        Map<Integer, Boolean> known = new HashMap<>();
        for (int n = 0; n <= 10; n++) {
            if (forces(now.counts, sort, true, n, known)) {
                return n;
            }
        }
        return error(Due.NONE);
    }

    private boolean forces(int[] counts, int sort, boolean first, int left, Map<Integer, Boolean> known) {
        if (isEnd(stateOf(counts), sort)) {
            return true;
        }
        if (left == 0) {
            return false;
        }
        int key = (stateOf(counts) * 11 + left) * 2 + (first ? 1 : 0);
        if (!known.containsKey(key)) {
            List<Boolean> answers = new ArrayList<>();
            for (int pair = 0; pair < 6; pair++) {
                int[] then = after(counts, pair, now.fenced);
                if (then != null) {
                    answers.add(forces(then, sort, !first, left - 1, known));
                }
            }
            known.put(key, !answers.isEmpty() && (first ? answers.contains(true) : !answers.contains(false)));
        }
        return known.get(key);
    }

    // ---- draws, voices, sheets, images, what is told

    int seed(int v) {
        int was = now.z;
        now.z = v;
        return was;
    }

    int voice(int pair, int act, int x) {
        if (pair < 0 || pair > 5 || act < 0 || act > 3) {
            return error(Due.BEYOND);
        }
        trace.clear();
        return say(pair, act, now.kinds[pair], x);
    }

    /** KIND, act (10 times the one, and the other) and number of each BODY. */
    private static final int[][] BODIES = {{0, 10}, {1, 11}, {2, 12}, {3, 13}, {11, 20}, {20, 30}, {32, 40}, {41, 50},
        {53, 60}, {62, 70}, {63, 71}};

    private int say(int pair, int act, int from, int x) {
        for (int kind = from; kind >= 0; kind = ABOVE[kind]) {
            for (int[] body : BODIES) {
                if (body[0] == kind * 10 + act) {
                    return work(pair, body[1], kind, x);
                }
            }
        }
        throw new IllegalStateException();
    }

    private int work(int pair, int body, int kind, int x) {
        if (trace.size() < 40) {
            trace.add(body);
        }
        int own = now.kinds[pair];
        int above = ABOVE[kind];
        int left;
        switch (body) {
            case 10: return x + pair;
            case 11: return say(pair, 0, own, x) * 2;
            case 12: return x - now.ms[pair];
            case 13: left = say(pair, 1, own, x); return left ^ say(pair, 2, own, x);
            case 20: left = say(pair, 1, above, x); return left - say(pair, 2, own, 1);
            case 30: return say(pair, 0, above, x) * 3;
            case 40: return -say(pair, 2, above, x);
            case 50: return say(pair, 1, above, x + 1);
            case 60: left = say(pair, 3, above, x); return left - say(pair, 0, own, 2);
            case 70: return say(pair, 2, above, x) ^ pair;
            default: left = say(pair, 1, own, x); return left - say(pair, 3, above, x);
        }
    }

    int trace(int i) {
        return i < 0 || i >= trace.size() ? error(Due.NONE) : trace.get(i);
    }

    int sheet(int sheet, int wide, int n) {
        if (sheet < 0 || sheet > 3 || !List.of(0, 8, 16, 32).contains(wide)) {
            return error(Due.BEYOND);
        }
        if (wide == 0) {
            sheets[sheet] = null;
            return 1;
        }
        if (n < 0) {
            return error(Due.STATE);
        }
        if (n > 40) {
            return error(Due.BEYOND);
        }
        sheets[sheet] = new int[n];
        bits[sheet] = wide;
        return 1;
    }

    int put(int sheet, int i, int v) {
        if (sheet < 0 || sheet > 3) {
            return error(Due.BEYOND);
        }
        if (sheets[sheet] == null) {
            return error(Due.NONE);
        }
        if (i < 0 || i >= sheets[sheet].length) {
            return error(Due.BEYOND);
        }
        sheets[sheet][i] = bits[sheet] == 8 ? (byte) v : bits[sheet] == 16 ? (short) v : v;
        return 1;
    }

    int move(int sheet, int i, int other, int j, int n) {
        if (sheet < 0 || sheet > 3 || other < 0 || other > 3) {
            return error(Due.BEYOND);
        }
        if (sheets[sheet] == null || sheets[other] == null) {
            return error(Due.NONE);
        }
        if (bits[sheet] != bits[other]) {
            return error(Due.KIND);
        }
        if (n < 0 || i < 0 || j < 0 || (long) i + n > sheets[sheet].length || (long) j + n > sheets[other].length) {
            return error(Due.BEYOND);
        }
        int[] as = sheets[sheet].clone();
        for (int at = 0; at < n; at++) {
            sheets[other][j + at] = as[i + at];
        }
        return n;
    }

    int judge(int sheet) {
        if (sheet < 0 || sheet > 3) {
            return error(Due.BEYOND);
        }
        if (sheets[sheet] == null) {
            return error(Due.NONE);
        }
        int[] at = now.counts;
        for (int i = 0; i < sheets[sheet].length; i++) {
            int pair = sheets[sheet][i];
            at = pair < 0 || pair > 5 ? null : after(at, pair, now.fenced);
            if (at == null) {
                return i;
            }
        }
        return sheets[sheet].length;
    }

    int image() {
        image = now.copy();
        images++;
        return images;
    }

    int restore() {
        if (image == null) {
            return error(Due.NONE);
        }
        now = image.copy();
        return stateOf(now.counts);
    }

    int tell(int v) {
        if (now.waiting.size() == 20) {
            return error(Due.FULL);
        }
        now.waiting.add(v);
        return now.waiting.size();
    }

    int check() {
        List<Integer> numbers = now.waiting;
        now.waiting = new ArrayList<>();
        int[] at = now.counts;
        for (int i = 0; i < numbers.size(); i++) {
            int[] then = null;
            for (int pair = 0; pair < 6; pair++) {
                int[] next = after(at, pair, now.fenced);
                if (next != null && stateOf(next) == numbers.get(i)) {
                    then = next;
                }
            }
            if (then == null) {
                return 1 + i;
            }
            at = then;
        }
        return 0;
    }

    int count(int what) {
        switch (what) {
            case 0: return stateOf(now.counts);
            case 1: return sum(now.counts);
            case 2: return now.met;
            case 3: return now.spent;
            case 4: return now.tape.size();
            case 5: return now.waiting.size();
            case 6: return trace.size();
            case 7: return now.z;
            default: return error(Due.BEYOND);
        }
    }

    int told(int k) {
        return k < 1 || k > 5 ? error(Due.BEYOND) : told[k];
    }
}
