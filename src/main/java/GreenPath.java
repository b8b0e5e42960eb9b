import java.util.Arrays;

/** An island with beings of three sorts, and the laws by which two that meet become others. */
public final class GreenPath {
    private static final int LOW = -1000000000;
    private static final int BEYOND = LOW - 1;
    private static final int NONE = LOW - 2;
    private static final int STATE = LOW - 3;
    private static final int FULL = LOW - 4;
    private static final int KIND = LOW - 5;
    private static final int ERRORS = 5;

    private static final int SORTS = 3;
    private static final int PAIRS = 6;
    private static final int KINDS = 7;
    private static final int USES = 2;
    private static final int SHEETS = 4;
    private static final int MOST_BEINGS = 12;
    private static final int MOST_MET = 9999;
    private static final int MOST_CHANCES = 60;
    private static final int MOST_BYTES = 50;
    private static final int MOST_OPEN = 5;
    private static final int MOST_DIGITS = 4;
    private static final int MOST_WAITING = 20;
    private static final int MOST_BODIES = 40;
    private static final int MOST_NUMBERS = 40;
    private static final int MOST_STEPS = 6;
    private static final int MOST_TURNS = 10;
    private static final int MOST_PRICE = 99;
    private static final int MOST_SPENT = 99999;
    private static final int LEAST_REST = 2;
    private static final int MOST_REST = 5;

    /** What stands for a STATE, a place or a PAIR that there isn't. */
    private static final int NOWHERE = -1;
    private static final int STATES = 455;
    private static final int[] WEIGHT = {169, 13, 1};
    private static final int[] LESSER = {0, 0, 0, 1, 1, 2};
    private static final int[] GREATER = {0, 1, 2, 1, 2, 2};

    private final Island now;
    private final Island kept;
    private final Search search;
    private final Row bodies;
    private final Row[] sheets;
    private final int[] sheetBits;
    private final int[] errors;
    private int images;

    public GreenPath() {
        search = new Search();
        now = search.island;
        now.settle();
        kept = new Island();
        bodies = new Row(MOST_BODIES);
        sheets = new Row[SHEETS];
        for (int i = 0; i < SHEETS; i++) {
            sheets[i] = new Row(MOST_NUMBERS);
        }
        sheetBits = new int[SHEETS];
        errors = new int[ERRORS + 1];
    }

    // ---- beings, laws

    public int be(int sort, int v) {
        if (!isSort(sort) || v < 0 || v > MOST_BEINGS) {
            return error(BEYOND);
        }
        int before = countOf(now.state, sort);
        if (beingsOf(now.state) - before + v > MOST_BEINGS) {
            return error(FULL);
        }
        now.state += (v - before) * WEIGHT[sort];
        return before;
    }

    public int of(int sort) {
        return isSort(sort) ? countOf(now.state, sort) : error(BEYOND);
    }

    public int law(int pair, int km) {
        if (!isPair(pair) || km < 0 || km >= KINDS * 10) {
            return error(BEYOND);
        }
        Law before = now.laws[pair];
        now.laws[pair] = newLaw(km / 10, pair, km % 10);
        rulesChanged();
        return before.kind * 10 + before.m;
    }

    public int fence(int pair, int v) {
        if (!isPair(pair) || v < 0 || v > 1) {
            return error(BEYOND);
        }
        int before = now.fencedAt(pair);
        now.fenced += (v - before) << pair;
        rulesChanged();
        return before;
    }

    public int ofPair(int pair, int what) {
        if (!isPair(pair) || what < 0 || what > 7) {
            return error(BEYOND);
        }
        switch (what) {
            case 0: return now.laws[pair].kind;
            case 1: return now.laws[pair].m;
            case 2: return now.fencedAt(pair);
            case 3: return now.next(now.state, pair) == NOWHERE ? 0 : 1;
            case 4: return now.growth[pair] + 2;
            default: return now.laws[pair].comes(what - 5, now);
        }
    }

    public int as(int pair, int kind) {
        if (!isPair(pair) || kind < 0 || kind >= KINDS) {
            return error(BEYOND);
        }
        return isOfKind(now.laws[pair], kind) ? now.laws[pair].m : error(KIND);
    }

    // ---- texts

    public int feed(long word, int n) {
        if (n < 1 || n > 8) {
            return error(BEYOND);
        }
        if (now.tape.size + n > MOST_BYTES) {
            return error(FULL);
        }
        for (int i = 0; i < n; i++) {
            now.tape.add((int) (word >>> (8 * i)) & 255);
        }
        return now.tape.size;
    }

    public int text(int use) {
        if (!isUse(use)) {
            return error(BEYOND);
        }
        Text fresh = new Text(now.tape, use == 0 ? "abm" : "abkt");
        int fault = fresh.faultOfReading();
        now.tape.size = 0;
        if (fault != NOWHERE) {
            return -10 - fault;
        }
        now.texts[use] = fresh;
        rulesChanged();
        return 1;
    }

    public int gives(int use, int a, int b, int c, int d) {
        if (!isUse(use)) {
            return error(BEYOND);
        }
        return use == 0 ? now.sortGiven(a, b, c) : now.priceGiven(a, b, c, d);
    }

    // ---- meetings

    public int meet(int pair) {
        if (!isPair(pair)) {
            return error(BEYOND);
        }
        int then = now.next(now.state, pair);
        if (then == NOWHERE || now.met >= MOST_MET) {
            return error(STATE);
        }
        now.become(pair, then);
        return now.state;
    }

    public int chance(int n) {
        if (n < 1 || n > MOST_CHANCES) {
            return error(BEYOND);
        }
        if (now.met + n > MOST_MET) {
            return error(STATE);
        }
        for (int i = 0; i < n; i++) {
            now.meetByChance();
        }
        return now.state;
    }

    // ---- what can be

    public int reach(int state) {
        if (!isState(state)) {
            return error(BEYOND);
        }
        search.explore();
        return orNone(search.distanceOf(state));
    }

    public int way(int state, int i) {
        if (!isState(state) || i < 0) {
            return error(BEYOND);
        }
        search.explore();
        return orNone(search.pairOnWay(state, i));
    }

    public int can(int sort, int what) {
        if (!isSort(sort) || what < 0 || what > 1) {
            return error(BEYOND);
        }
        search.explore();
        int end = search.nearestEnd(sort);
        if (end == NOWHERE) {
            return error(NONE);
        }
        return what == 0 ? search.distanceOf(end) : end;
    }

    public int reached() {
        search.explore();
        return search.found;
    }

    public int stays(int k, int what) {
        if (!isRest(k) || what < -1) {
            return error(BEYOND);
        }
        int many = 0;
        for (int told = 0; told < k * k * k; told++) {
            if (now.keepsRest(told, k)) {
                // (0, 0, 0) always keeps its rest: the i-th greater than 0 has i + 1 ahead of it
                if (many - 1 == what && what >= 0) {
                    return told;
                }
                many++;
            }
        }
        return what == -1 ? many : error(NONE);
    }

    public int bars(int sort, int k) {
        if (!isSort(sort) || !isRest(k)) {
            return error(BEYOND);
        }
        int all = beingsOf(now.state);
        if (all == 0) {
            return error(STATE);
        }
        int end = all * WEIGHT[sort];
        for (int told = 0; told < k * k * k; told++) {
            if (now.keepsRest(told, k) && restOf(end, told, k) != restOf(now.state, told, k)) {
                return 1;
            }
        }
        return 0;
    }

    public long ways(int n, int state) {
        if (n < 0 || n > MOST_STEPS || !isState(state)) {
            return error(BEYOND);
        }
        search.countWays(n);
        return search.waysTo(state);
    }

    public long allWays(int n) {
        if (n < 0 || n > MOST_STEPS) {
            return error(BEYOND);
        }
        search.countWays(n);
        return search.waysInAll();
    }

    public int fences(int sort, int what) {
        if (!isSort(sort) || what < 0 || what > 1) {
            return error(BEYOND);
        }
        if (isEnd(now.state, sort)) {
            return error(NONE);
        }
        int least = search.leastFences(sort);
        return what == 0 ? Integer.bitCount(least) : least;
    }

    public int was(int n, int what) {
        if (n < 0 || n > MOST_STEPS || what < 0 || what > 1) {
            return error(BEYOND);
        }
        search.goBack(n);
        return what == 0 ? search.originsInAll() : orNone(search.leastOrigin());
    }

    public int force(int sort) {
        return isSort(sort) ? orNone(search.turnsToForce(sort)) : error(BEYOND);
    }

    // ---- draws, voices, sheets, images, what is told

    public int seed(int v) {
        int before = now.z;
        now.z = v;
        return before;
    }

    public int voice(int pair, int act, int x) {
        if (!isPair(pair) || act < 0 || act > 3) {
            return error(BEYOND);
        }
        bodies.size = 0;
        Law speaker = now.laws[pair];
        switch (act) {
            case 0: return speaker.voiceMeets(x, bodies);
            case 1: return speaker.voiceTurns(x, bodies);
            case 2: return speaker.voiceStays(x, bodies);
            default: return speaker.voiceTells(x, bodies);
        }
    }

    public int trace(int i) {
        return bodies.has(i) ? bodies.cells[i] : error(NONE);
    }

    public int sheet(int sheet, int bits, int n) {
        if (!isSheet(sheet) || bits != 0 && bits != 8 && bits != 16 && bits != 32) {
            return error(BEYOND);
        }
        if (bits != 0 && n < 0) {
            return error(STATE);
        }
        if (bits != 0 && n > MOST_NUMBERS) {
            return error(BEYOND);
        }
        sheetBits[sheet] = bits;
        sheets[sheet].zeros(bits == 0 ? 0 : n);
        return 1;
    }

    public int put(int sheet, int i, int v) {
        if (!isSheet(sheet)) {
            return error(BEYOND);
        }
        if (sheetBits[sheet] == 0) {
            return error(NONE);
        }
        if (!sheets[sheet].has(i)) {
            return error(BEYOND);
        }
        sheets[sheet].cells[i] = sheetBits[sheet] == 32 ? v : v & ((1 << sheetBits[sheet]) - 1);
        return 1;
    }

    public int move(int sheet, int i, int other, int j, int n) {
        if (!isSheet(sheet) || !isSheet(other)) {
            return error(BEYOND);
        }
        if (sheetBits[sheet] == 0 || sheetBits[other] == 0) {
            return error(NONE);
        }
        if (sheetBits[sheet] != sheetBits[other]) {
            return error(KIND);
        }
        if (!sheets[sheet].hasRange(i, n) || !sheets[other].hasRange(j, n)) {
            return error(BEYOND);
        }
        System.arraycopy(sheets[sheet].cells, i, sheets[other].cells, j, n);
        return n;
    }

    public int judge(int sheet) {
        if (!isSheet(sheet)) {
            return error(BEYOND);
        }
        if (sheetBits[sheet] == 0) {
            return error(NONE);
        }
        Row row = sheets[sheet];
        int state = now.state;
        for (int i = 0; i < row.size; i++) {
            state = isPair(row.cells[i]) ? now.next(state, row.cells[i]) : NOWHERE;
            if (state == NOWHERE) {
                return i;
            }
        }
        return row.size;
    }

    public int image() {
        kept.takeFrom(now);
        images++;
        return images;
    }

    public int restore() {
        if (images == 0) {
            return error(NONE);
        }
        now.takeFrom(kept);
        rulesChanged();
        return now.state;
    }

    public int tell(int v) {
        return now.waiting.add(v) ? now.waiting.size : error(FULL);
    }

    public int check() {
        int many = now.waiting.size;
        now.waiting.size = 0;
        int state = now.state;
        for (int i = 0; i < many; i++) {
            if (!now.leadsTo(state, now.waiting.cells[i])) {
                return 1 + i;
            }
            state = now.waiting.cells[i];
        }
        return 0;
    }

    public int count(int what) {
        switch (what) {
            case 0: return now.state;
            case 1: return beingsOf(now.state);
            case 2: return now.met;
            case 3: return now.spent;
            case 4: return now.tape.size;
            case 5: return now.waiting.size;
            case 6: return bodies.size;
            case 7: return now.z;
            default: return error(BEYOND);
        }
    }

    public int told(int k) {
        return k >= 1 && k <= ERRORS ? errors[k] : error(BEYOND);
    }

    // ---- what the acts share

    private int error(int answer) {
        int k = LOW - answer;
        if (k >= 1 && k <= ERRORS) {
            errors[k]++;
        }
        return answer;
    }

    private int orNone(int answer) {
        return answer == NOWHERE ? error(NONE) : answer;
    }

    private void rulesChanged() {
        now.settle();
        search.forget();
    }

    private static boolean isSort(int sort) {
        return sort >= 0 && sort < SORTS;
    }

    private static boolean isPair(int pair) {
        return pair >= 0 && pair < PAIRS;
    }

    private static boolean isUse(int use) {
        return use >= 0 && use < USES;
    }

    private static boolean isSheet(int sheet) {
        return sheet >= 0 && sheet < SHEETS;
    }

    private static boolean isRest(int k) {
        return k >= LEAST_REST && k <= MOST_REST;
    }

    private static boolean isState(int state) {
        return state >= 0 && state <= MOST_BEINGS * WEIGHT[0] && beingsOf(state) <= MOST_BEINGS;
    }

    private static boolean isEnd(int state, int sort) {
        return state > 0 && countOf(state, sort) * WEIGHT[sort] == state;
    }

    private static int countOf(int state, int sort) {
        return state / WEIGHT[sort] % 13;
    }

    private static int beingsOf(int state) {
        return state / 169 + state / 13 % 13 + state % 13;
    }

    /** The rest by k of weights (as they are told) times the COUNTS of a STATE. */
    private static int restOf(int state, int told, int k) {
        return (told / (k * k) * countOf(state, 0) + told / k % k * countOf(state, 1) + told % k * countOf(state, 2)) % k;
    }

    private static boolean isOfKind(Law law, int kind) {
        switch (kind) {
            case 1: return law instanceof Third;
            case 2: return law instanceof Eat;
            case 3: return law instanceof Split;
            case 4: return law instanceof Copy;
            case 5: return law instanceof Join;
            case 6: return law instanceof Told;
            default: return true;
        }
    }

    private static Law newLaw(int kind, int pair, int m) {
        switch (kind) {
            case 1: return new Third(1, pair, m);
            case 2: return new Eat(2, pair, m);
            case 3: return new Split(3, pair, m);
            case 4: return new Copy(4, pair, m);
            case 5: return new Join(5, pair, m);
            case 6: return new Told(6, pair, m);
            default: return new Law(0, pair, m);
        }
    }

    /** A LAW never changes once it is made, so that the island of now and the IMAGE may share it. */
    private static class Law {
        final int kind;
        final int pair;
        final int m;
        final int a;
        final int b;

        Law(int kind, int pair, int m) {
            this.kind = kind;
            this.pair = pair;
            this.m = m;
            a = LESSER[pair];
            b = GREATER[pair];
        }

        /** The SORT of the i-th being that comes of a and b; NOWHERE: there is none. */
        int comes(int i, Island island) {
            return i == 0 ? a : i == 1 ? b : NOWHERE;
        }

        int voiceMeets(int x, Row bodies) {
            bodies.add(10);
            return x + pair;
        }

        int voiceTurns(int x, Row bodies) {
            bodies.add(11);
            return voiceMeets(x, bodies) * 2;
        }

        int voiceStays(int x, Row bodies) {
            bodies.add(12);
            return x - m;
        }

        int voiceTells(int x, Row bodies) {
            bodies.add(13);
            int left = voiceTurns(x, bodies);
            return left ^ voiceStays(x, bodies);
        }
    }

    private static class Third extends Law {
        Third(int kind, int pair, int m) {
            super(kind, pair, m);
        }

        int comes(int i, Island island) {
            return a != b && i < 2 ? 3 - a - b : super.comes(i, island);
        }

        int voiceTurns(int x, Row bodies) {
            bodies.add(20);
            int left = super.voiceTurns(x, bodies);
            return left - voiceStays(1, bodies);
        }
    }

    private static class Eat extends Law {
        Eat(int kind, int pair, int m) {
            super(kind, pair, m);
        }

        int comes(int i, Island island) {
            return i == 0 ? b : NOWHERE;
        }

        int voiceMeets(int x, Row bodies) {
            bodies.add(30);
            return super.voiceMeets(x, bodies) * 3;
        }
    }

    private static class Split extends Law {
        Split(int kind, int pair, int m) {
            super(kind, pair, m);
        }

        int comes(int i, Island island) {
            return i == 2 ? m % 3 : super.comes(i, island);
        }

        int voiceStays(int x, Row bodies) {
            bodies.add(40);
            return -super.voiceStays(x, bodies);
        }
    }

    private static final class Copy extends Third {
        Copy(int kind, int pair, int m) {
            super(kind, pair, m);
        }

        int comes(int i, Island island) {
            return a != b && i < 2 ? b : super.comes(i, island);
        }

        int voiceTurns(int x, Row bodies) {
            bodies.add(50);
            return super.voiceTurns(x + 1, bodies);
        }
    }

    private static final class Join extends Eat {
        Join(int kind, int pair, int m) {
            super(kind, pair, m);
        }

        int comes(int i, Island island) {
            return i == 0 ? (a + b + m) % 3 : super.comes(i, island);
        }

        int voiceTells(int x, Row bodies) {
            bodies.add(60);
            int left = super.voiceTells(x, bodies);
            return left - voiceMeets(2, bodies);
        }
    }

    private static final class Told extends Split {
        Told(int kind, int pair, int m) {
            super(kind, pair, m);
        }

        int comes(int i, Island island) {
            if (i < 2) {
                return island.sortGiven(a, b, m);
            }
            return m > 4 ? super.comes(i, island) : NOWHERE;
        }

        int voiceStays(int x, Row bodies) {
            bodies.add(70);
            return super.voiceStays(x, bodies) ^ pair;
        }

        int voiceTells(int x, Row bodies) {
            bodies.add(71);
            int left = voiceTurns(x, bodies);
            return left - super.voiceTells(x, bodies);
        }
    }

    /** All that an IMAGE keeps, and what follows from it for single MEETINGS. */
    private static final class Island {
        final Law[] laws = new Law[PAIRS];
        final Text[] texts = new Text[USES];
        final Row tape = new Row(MOST_BYTES);
        final Row waiting = new Row(MOST_WAITING);
        int state;
        int fenced;
        int met;
        int spent;
        int z = 1;
        /** What a MEETING of a PAIR adds to the COUNT of each SORT, to all beings, to the STATE as told. */
        final int[] change = new int[PAIRS * SORTS];
        final int[] growth = new int[PAIRS];
        final int[] shift = new int[PAIRS];

        Island() {
            for (int pair = 0; pair < PAIRS; pair++) {
                laws[pair] = new Third(1, pair, 0);
            }
        }

        void takeFrom(Island other) {
            for (int pair = 0; pair < PAIRS; pair++) {
                laws[pair] = other.laws[pair];
            }
            for (int use = 0; use < USES; use++) {
                texts[use] = other.texts[use];
            }
            tape.takeFrom(other.tape);
            waiting.takeFrom(other.waiting);
            state = other.state;
            fenced = other.fenced;
            met = other.met;
            spent = other.spent;
            z = other.z;
        }

        /** Works out anew what comes of each PAIR: wanted whenever LAWS or TEXTS are others. */
        void settle() {
            Arrays.fill(change, 0);
            for (int pair = 0; pair < PAIRS; pair++) {
                addChange(pair, LESSER[pair], -1);
                addChange(pair, GREATER[pair], -1);
                for (int i = 0; i < 3; i++) {
                    addChange(pair, laws[pair].comes(i, this), 1);
                }
                int first = change[pair * SORTS];
                int second = change[pair * SORTS + 1];
                int third = change[pair * SORTS + 2];
                growth[pair] = first + second + third;
                shift[pair] = first * WEIGHT[0] + second * WEIGHT[1] + third * WEIGHT[2];
            }
        }

        void addChange(int pair, int sort, int by) {
            if (isSort(sort)) {
                change[pair * SORTS + sort] += by;
            }
        }

        int fencedAt(int pair) {
            return fenced >> pair & 1;
        }

        /** The STATE behind a MEETING, or NOWHERE, if it MAY not be. */
        int next(int from, int pair) {
            int a = LESSER[pair];
            int b = GREATER[pair];
            int needed = a == b ? 2 : 1;
            if (fencedAt(pair) == 1 || countOf(from, a) < needed || countOf(from, b) < needed) {
                return NOWHERE;
            }
            return beingsOf(from) + growth[pair] > MOST_BEINGS ? NOWHERE : from + shift[pair];
        }

        boolean leadsTo(int from, int to) {
            for (int pair = 0; pair < PAIRS; pair++) {
                if (to >= 0 && next(from, pair) == to) {
                    return true;
                }
            }
            return false;
        }

        void become(int pair, int then) {
            int price = priceGiven(LESSER[pair], GREATER[pair], laws[pair].kind, met);
            spent = Math.max(-MOST_SPENT, Math.min(MOST_SPENT, spent + price));
            met++;
            state = then;
        }

        void meetByChance() {
            int all = beingsOf(state);
            if (all < 2) {
                return;
            }
            int one = sortAt(state, draw() % all);
            int other = sortAt(state - WEIGHT[one], draw() % (all - 1));
            int a = Math.min(one, other);
            int b = Math.max(one, other);
            int pair = a == 0 ? b : a + b + 1;
            int then = next(state, pair);
            if (then != NOWHERE) {
                become(pair, then);
            }
        }

        int draw() {
            z = z * 1103515245 + 12345;
            return z >>> 8;
        }

        static int sortAt(int from, int place) {
            int first = countOf(from, 0);
            if (place < first) {
                return 0;
            }
            return place < first + countOf(from, 1) ? 1 : 2;
        }

        int sortGiven(int a, int b, int m) {
            int value = texts[0] == null ? a + b + m : texts[0].worth(a, b, m, 0);
            return Math.max(0, value % 3);
        }

        int priceGiven(int a, int b, int k, int t) {
            int value = texts[1] == null ? 1 : texts[1].worth(a, b, k, t);
            return Math.max(-MOST_PRICE, Math.min(MOST_PRICE, value));
        }

        /** Whether weights (as they are told) keep the rest by k, as if of all SORTS there were enough. */
        boolean keepsRest(int told, int k) {
            for (int pair = 0; pair < PAIRS; pair++) {
                int at = pair * SORTS;
                int sum = told / (k * k) * change[at] + told / k % k * change[at + 1] + told % k * change[at + 2];
                if (fencedAt(pair) == 0 && sum % k != 0) {
                    return false;
                }
            }
            return true;
        }
    }

    /** A TEXT, kept with what is to be worked out behind what it is worked out of. */
    private static final class Text {
        final Row tape;
        final String names;
        /** 0 on: a number; -1 to -4: a NAME; else the sign's byte, times -1. */
        final Row code;
        final int[] values;
        int at;
        int open;

        Text(Row tape, String names) {
            this.tape = tape;
            this.names = names;
            code = new Row(tape.size);
            values = new int[tape.size];
        }

        /** Reads all of THE TAPE: the FAULT, or NOWHERE, if it is a TEXT. */
        int faultOfReading() {
            return readLevel(0) && at == tape.size ? NOWHERE : at;
        }

        int sign() {
            return at < tape.size ? tape.cells[at] : NOWHERE;
        }

        static boolean isAmong(int sign, String signs) {
            return sign > 0 && signs.indexOf((char) sign) >= 0;
        }

        static String signsOf(int level) {
            switch (level) {
                case 0: return "|";
                case 1: return "&";
                case 2: return "<=>";
                case 3: return "+-";
                default: return "*/%";
            }
        }

        /**
         * T, A, B, S, P are levels 0 to 4, and Q is beyond them. False: with the byte at which it stands no TEXT goes
         * on. How many ! and ( are open keeps the calls from going deep.
         */
        private boolean readLevel(int level) {
            if (level > 4) {
                return readSingle();
            }
            if (!readLevel(level + 1)) {
                return false;
            }
            int most = level == 2 ? 1 : MOST_BYTES;
            for (int i = 0; i < most && isAmong(sign(), signsOf(level)); i++) {
                int sign = sign();
                at++;
                if (!readLevel(level + 1)) {
                    return false;
                }
                code.add(-sign);
            }
            return true;
        }

        private boolean readSingle() {
            int sign = sign();
            if (sign >= '0' && sign <= '9') {
                return readNumber();
            }
            if (isAmong(sign, names)) {
                at++;
                return code.add(-1 - names.indexOf((char) sign));
            }
            if (sign != '!' && sign != '(' || open >= MOST_OPEN) {
                return false;
            }
            open++;
            at++;
            boolean good = sign == '!' ? readSingle() && code.add(-'!') : readLevel(0) && readClosing();
            open--;
            return good;
        }

        boolean readNumber() {
            int value = 0;
            for (int i = 0; i < MOST_DIGITS && sign() >= '0' && sign() <= '9'; i++) {
                value = value * 10 + sign() - '0';
                at++;
            }
            return code.add(value);
        }

        boolean readClosing() {
            if (sign() != ')') {
                return false;
            }
            at++;
            return true;
        }

        int worth(int a, int b, int c, int d) {
            int top = 0;
            for (int i = 0; i < code.size; i++) {
                int item = code.cells[i];
                if (item >= -4 && top < values.length) {
                    values[top] = item >= 0 ? item : item == -1 ? a : item == -2 ? b : item == -3 ? c : d;
                    top++;
                } else if (item == -'!' && top >= 1) {
                    values[top - 1] = values[top - 1] == 0 ? 1 : 0;
                } else if (top >= 2) {
                    top--;
                    values[top - 1] = joined(-item, values[top - 1], values[top]);
                }
            }
            return top > 0 ? values[0] : 0;
        }

        static int joined(int sign, int left, int right) {
            switch (sign) {
                case '|': return left != 0 || right != 0 ? 1 : 0;
                case '&': return left != 0 && right != 0 ? 1 : 0;
                case '<': return left < right ? 1 : 0;
                case '=': return left == right ? 1 : 0;
                case '>': return left > right ? 1 : 0;
                case '+': return left + right;
                case '-': return left - right;
                case '*': return left * right;
                case '/': return right == 0 ? 0 : left / right;
                default: return right == 0 ? 0 : left % right;
            }
        }
    }

    /** What can come of many MEETINGS. Inside it a STATE is its place among all STATES in order. */
    private static final class Search {
        static final int UNKNOWN = -2;
        static final int FAR = 99;
        /** How many STATES have a lesser first COUNT. */
        static final int[] AHEAD = {0, 91, 169, 235, 290, 335, 371, 399, 420, 435, 445, 451, 454};
        /** The sets of PAIRS, a bit each, that a PAIR isn't in. */
        static final long[] WITHOUT = {
            0x5555555555555555L, 0x3333333333333333L, 0x0F0F0F0F0F0F0F0FL,
            0x00FF00FF00FF00FFL, 0x0000FFFF0000FFFFL, 0x00000000FFFFFFFFL};

        final Island island = new Island();
        final int[] states = new int[STATES];
        /** Where a PAIR leads from a place; kept until the rules change, as many searches ask again. */
        final int[] leads = new int[STATES * PAIRS];
        final int[] queue = new int[STATES];
        final int[] distance = new int[STATES];
        /** By which place and PAIR a place was found: PAIRS times the place, and the PAIR. */
        final int[] origin = new int[STATES];
        int found;
        int[] marks = new int[STATES];
        int[] otherMarks = new int[STATES];
        long[] sums = new long[STATES];
        long[] otherSums = new long[STATES];

        Search() {
            int place = 0;
            for (int state = 0; state <= MOST_BEINGS * WEIGHT[0]; state++) {
                if (isState(state) && place < STATES) {
                    states[place] = state;
                    place++;
                }
            }
            Arrays.fill(leads, UNKNOWN);
        }

        void forget() {
            Arrays.fill(leads, UNKNOWN);
        }

        static int placeOf(int state) {
            int first = countOf(state, 0);
            int second = countOf(state, 1);
            return AHEAD[first] + second * (13 - first) - second * (second - 1) / 2 + countOf(state, 2);
        }

        int lead(int place, int pair) {
            int at = place * PAIRS + pair;
            if (leads[at] == UNKNOWN) {
                int then = island.next(states[place], pair);
                leads[at] = then == NOWHERE ? NOWHERE : placeOf(then);
            }
            return leads[at];
        }

        /** Goes by PAIRS in order, first found first gone from: so the first way to a place is the first as a row. */
        void explore() {
            Arrays.fill(distance, NOWHERE);
            found = 0;
            find(placeOf(island.state), 0, NOWHERE);
            for (int head = 0; head < found && head < STATES; head++) {
                int from = queue[head];
                for (int pair = 0; pair < PAIRS; pair++) {
                    int to = lead(from, pair);
                    if (to != NOWHERE && distance[to] == NOWHERE) {
                        find(to, distance[from] + 1, from * PAIRS + pair);
                    }
                }
            }
        }

        void find(int place, int far, int by) {
            if (found < STATES) {
                distance[place] = far;
                origin[place] = by;
                queue[found] = place;
                found++;
            }
        }

        int distanceOf(int state) {
            return distance[placeOf(state)];
        }

        int pairOnWay(int state, int i) {
            int place = placeOf(state);
            int length = distance[place];
            if (i >= length) {
                return NOWHERE;
            }
            for (int back = length - 1; back > i; back--) {
                place = origin[place] / PAIRS;
            }
            return origin[place] % PAIRS;
        }

        int nearestEnd(int sort) {
            int best = NOWHERE;
            for (int beings = 1; beings <= MOST_BEINGS; beings++) {
                int end = beings * WEIGHT[sort];
                int far = distanceOf(end);
                if (far != NOWHERE && (best == NOWHERE || far < distanceOf(best))) {
                    best = end;
                }
            }
            return best;
        }

        void countWays(int n) {
            Arrays.fill(sums, 0L);
            sums[placeOf(island.state)] = 1L;
            for (int i = 0; i < n; i++) {
                Arrays.fill(otherSums, 0L);
                for (int place = 0; place < STATES; place++) {
                    if (sums[place] != 0L) {
                        passOn(place);
                    }
                }
                long[] spare = sums;
                sums = otherSums;
                otherSums = spare;
            }
        }

        void passOn(int place) {
            for (int pair = 0; pair < PAIRS; pair++) {
                int to = lead(place, pair);
                if (to != NOWHERE) {
                    otherSums[to] += sums[place] * couples(states[place], pair);
                }
            }
        }

        static int couples(int state, int pair) {
            int one = countOf(state, LESSER[pair]);
            int other = countOf(state, GREATER[pair]);
            return LESSER[pair] == GREATER[pair] ? one * (one - 1) / 2 : one * other;
        }

        long waysTo(int state) {
            return sums[placeOf(state)];
        }

        long waysInAll() {
            long all = 0L;
            for (int place = 0; place < STATES; place++) {
                all += sums[place];
            }
            return all;
        }

        /** The least of the smallest sets of PAIRS more (as bits) whose fences keep an END away. */
        int leastFences(int sort) {
            long open = setsThatLetThrough(sort);
            int best = (1 << PAIRS) - 1 & ~island.fenced;
            for (int set = 0; set < 1 << PAIRS; set++) {
                boolean more = (set & island.fenced) == 0;
                boolean keeps = (open >>> set & 1L) == 0L;
                if (more && keeps && Integer.bitCount(set) < Integer.bitCount(best)) {
                    best = set;
                }
            }
            return best;
        }

        /** Tries all sets of fences in one go: each place has, a bit each, the sets by which it can be reached. */
        long setsThatLetThrough(int sort) {
            explore();
            Arrays.fill(sums, 0L);
            sums[queue[0]] = -1L;
            boolean changed = true;
            // no way without a ring is longer than there are places
            for (int i = 0; i < STATES && changed; i++) {
                changed = false;
                for (int head = 0; head < found; head++) {
                    changed |= spread(queue[head]);
                }
            }
            long open = 0L;
            for (int beings = 1; beings <= MOST_BEINGS; beings++) {
                open |= waysTo(beings * WEIGHT[sort]);
            }
            return open;
        }

        boolean spread(int place) {
            boolean changed = false;
            for (int pair = 0; pair < PAIRS; pair++) {
                int to = lead(place, pair);
                long more = sums[place] & WITHOUT[pair];
                if (to != NOWHERE && (more & ~sums[to]) != 0L) {
                    sums[to] |= more;
                    changed = true;
                }
            }
            return changed;
        }

        /** Marks with 1 the places from which n MEETINGS can lead to the STATE of now. */
        void goBack(int n) {
            Arrays.fill(marks, 0);
            marks[placeOf(island.state)] = 1;
            for (int i = 0; i < n; i++) {
                for (int place = 0; place < STATES; place++) {
                    otherMarks[place] = leadsToMark(place) ? 1 : 0;
                }
                int[] spare = marks;
                marks = otherMarks;
                otherMarks = spare;
            }
        }

        boolean leadsToMark(int place) {
            for (int pair = 0; pair < PAIRS; pair++) {
                int to = lead(place, pair);
                if (to != NOWHERE && marks[to] == 1) {
                    return true;
                }
            }
            return false;
        }

        int originsInAll() {
            int all = 0;
            for (int place = 0; place < STATES; place++) {
                all += marks[place];
            }
            return all;
        }

        int leastOrigin() {
            for (int place = 0; place < STATES; place++) {
                if (marks[place] == 1) {
                    return states[place];
                }
            }
            return NOWHERE;
        }

        /** Marks: by how few MEETINGS the END is forced, if the first one tells next; other marks: if the other one does. */
        int turnsToForce(int sort) {
            explore();
            for (int head = 0; head < found; head++) {
                int place = queue[head];
                marks[place] = isEnd(states[place], sort) ? 0 : FAR;
                otherMarks[place] = marks[place];
            }
            int start = queue[0];
            for (int turns = 1; turns <= MOST_TURNS && marks[start] == FAR; turns++) {
                for (int head = 0; head < found; head++) {
                    forceWithin(turns, queue[head]);
                }
            }
            return marks[start] == FAR ? NOWHERE : marks[start];
        }

        void forceWithin(int turns, int place) {
            boolean some = false;
            boolean any = false;
            boolean all = true;
            for (int pair = 0; pair < PAIRS; pair++) {
                int to = lead(place, pair);
                if (to != NOWHERE) {
                    any = true;
                    some |= otherMarks[to] < turns;
                    all &= marks[to] < turns;
                }
            }
            if (some && marks[place] == FAR) {
                marks[place] = turns;
            }
            if (any && all && otherMarks[place] == FAR) {
                otherMarks[place] = turns;
            }
        }
    }

    /** Numbers one behind the other, so many at most. */
    private static final class Row {
        final int[] cells;
        int size;

        Row(int most) {
            cells = new int[Math.max(0, most)];
        }

        boolean add(int value) {
            if (size >= cells.length) {
                return false;
            }
            cells[size] = value;
            size++;
            return true;
        }

        boolean has(int i) {
            return i >= 0 && i < size;
        }

        boolean hasRange(int from, int n) {
            return from >= 0 && n >= 0 && n <= size && from <= size - n;
        }

        void zeros(int n) {
            Arrays.fill(cells, 0);
            size = Math.max(0, Math.min(n, cells.length));
        }

        void takeFrom(Row other) {
            int n = Math.min(other.size, cells.length);
            System.arraycopy(other.cells, 0, cells, 0, n);
            size = n;
        }
    }
}
