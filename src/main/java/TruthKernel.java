/**
 * Candidate truths about a small machine that are struck out until the rest holds. The machine has
 * three numbers from 0 to 7 and up to eight guarded steps; candidates are claims about its states,
 * refuted by the start, by runs or by steps. What stands when no step refutes any more is a kernel.
 */
public final class TruthKernel {
    public static final int NO_SUCH = -1, BAD_VALUE = -2, BAD_TEXT = -3, TOO_MANY = -4, NOT_POSSIBLE = -5, NONE = -6;
    public static final int ALWAYS = 0, IS = 1, NOT = 2, AT_MOST = 3, AT_LEAST = 4, SAME = 5, UNLIKE = 6, LESS = 7, SUM = 8, EVEN = 9;
    public static final int PUT = 0, COPY = 1, SWAP = 2;

    private static final int STATES = 512;
    private static final int MOST_STEPS = 8;
    private static final int MOST_CANDIDATES = 40;
    private static final int MOST_MOVES = 99;
    private static final int MOST_SIGNS = 80;
    private static final int MOST_KEPT = 6;
    private static final int SLOTS = 2;
    private static final int CODES_OF_A_FORM = 135;

    private static final int STANDS = 0, BY_START = 1, BY_RUN = 2, BY_STEP = 3;

    private final Machine now;
    private final History history;
    private final Machine[] slots;
    private final boolean[] filled;
    private final Survey survey;
    private final Pad pad;
    private final Reader reader;

    public TruthKernel() {
        now = new Machine();
        history = new History();
        slots = new Machine[SLOTS];
        for (int slot = 0; slot < SLOTS; slot++) {
            slots[slot] = new Machine();
        }
        filled = new boolean[SLOTS];
        survey = new Survey();
        reader = new Reader();
        pad = reader.pad;
    }

    // ---- the machine

    public int start(int a, int b, int c) {
        history.prepare(now);
        return history.confirm(now.setStart(a, b, c));
    }

    public int wrap(int on) {
        history.prepare(now);
        return history.confirm(now.setWrap(on));
    }

    public int step(int guard, int how, int x, int y, int k) {
        history.prepare(now);
        return history.confirm(now.addStep(guard, how, x, y, k));
    }

    public int drop(int step) {
        history.prepare(now);
        return history.confirm(now.removeStep(step));
    }

    // ---- candidates

    public int candidate(int claim) {
        history.prepare(now);
        return history.confirm(now.addCandidate(claim));
    }

    public int guess(int form) {
        history.prepare(now);
        return history.confirm(now.addGuesses(form));
    }

    public int run(int seed, int length) {
        history.prepare(now);
        return history.confirm(now.makeRun(seed, length));
    }

    public int strike() {
        history.prepare(now);
        return history.confirm(now.makeRound(survey.allowed));
    }

    public int settle() {
        history.prepare(now);
        return history.confirm(now.makeRounds(survey.allowed));
    }

    // ---- what there is

    public int claim(int form, int x, int y, int k) {
        return Claims.encode(form, x, y, k);
    }

    public int holds(int claim, int state) {
        if (!Claims.isCode(claim) || !isState(state)) {
            return BAD_VALUE;
        }
        return asNumber(Claims.isMetBy(claim, state));
    }

    public int ofStep(int step, int what) {
        Steps steps = now.steps;
        if (!steps.has(step)) {
            return NO_SUCH;
        }
        switch (what) {
            case 0: return steps.guard[step];
            case 1: return steps.how[step];
            case 2: return steps.x[step];
            case 3: return steps.y[step];
            case 4: return steps.k[step] + 7;
            case 5:
                survey.all.fill();
                return now.countAble(step, survey.all);
            case 6:
                now.findAllowed(survey.allowed);
                return now.countAble(step, survey.allowed);
            default: return BAD_VALUE;
        }
    }

    public int leads(int step, int state) {
        if (!now.steps.has(step)) {
            return NO_SUCH;
        }
        if (!isState(state)) {
            return BAD_VALUE;
        }
        return now.target(step, state);
    }

    public int ofCandidate(int candidate, int what) {
        Candidates candidates = now.candidates;
        if (!candidates.has(candidate)) {
            return NO_SUCH;
        }
        switch (what) {
            case 0: return candidates.code[candidate];
            case 1: return candidates.fate[candidate];
            case 2: return candidates.state[candidate];
            case 3: return candidates.number[candidate];
            case 4: return candidates.round[candidate];
            default: return BAD_VALUE;
        }
    }

    public int count(int what) {
        switch (what) {
            case 0: return now.steps.count;
            case 1: return now.candidates.count;
            case 2: return now.candidates.countStanding();
            case 3: return now.seen.count;
            case 4: return now.runs;
            case 5: return now.rounds;
            case 6: return now.start;
            case 7: return now.wrap;
            case 8:
                now.findAllowed(survey.allowed);
                return survey.allowed.size();
            case 9:
                survey.findReached(now);
                return survey.reached.size();
            case 10: return asNumber(survey.isKernel(now));
            case 11: return pad.length;
            case 12: return history.count;
            default: return BAD_VALUE;
        }
    }

    public int ofState(int state) {
        if (!isState(state)) {
            return BAD_VALUE;
        }
        survey.findReached(now);
        return asNumber(now.seen.states.has(state))
            + 2 * asNumber(survey.reached.has(state))
            + 4 * asNumber(now.candidates.allow(state));
    }

    // ---- what follows; nothing changes

    public int proves(int claim) {
        if (!Claims.isCode(claim)) {
            return BAD_VALUE;
        }
        if (!survey.isKernel(now)) {
            return NOT_POSSIBLE;
        }
        return asNumber(survey.allowed.firstMiss(claim) == NONE);
    }

    public int witness(int claim) {
        if (!Claims.isCode(claim)) {
            return BAD_VALUE;
        }
        now.findAllowed(survey.allowed);
        return survey.allowed.firstMiss(claim);
    }

    public int isTrue(int claim) {
        if (!Claims.isCode(claim)) {
            return BAD_VALUE;
        }
        survey.findReached(now);
        return asNumber(survey.reached.firstMiss(claim) == NONE);
    }

    public long needless() {
        return now.candidates.findNeedless();
    }

    public long core(int claim) {
        if (!Claims.isCode(claim)) {
            return BAD_VALUE;
        }
        if (!survey.isKernel(now)) {
            return NOT_POSSIBLE;
        }
        if (survey.allowed.firstMiss(claim) != NONE) {
            return NONE;
        }
        return survey.findCore(now, claim);
    }

    // ---- texts

    public int put(long characters) {
        int more = Pad.countSigns(characters);
        if (more == 0) {
            return BAD_VALUE;
        }
        if (pad.length + more > MOST_SIGNS) {
            return TOO_MANY;
        }
        pad.append(characters, more);
        return pad.length;
    }

    public int wipe() {
        int before = pad.length;
        pad.length = 0;
        return before;
    }

    public int fault() {
        return reader.findFault();
    }

    public int carryOut() {
        if (reader.findFault() != NONE) {
            return BAD_TEXT;
        }
        history.prepare(now);
        reader.begin();
        int carried = 0;
        // each order takes a character at least, so there are no more orders than characters
        while (carried < MOST_SIGNS && reader.readNextOrder() && carryOrderOut() >= 0) {
            carried++;
        }
        pad.length = 0;
        return history.confirm(carried);
    }

    // ---- undo, saving

    public int undo() {
        if (!history.takeBack(now)) {
            return NOT_POSSIBLE;
        }
        return history.count;
    }

    public int save(int slot) {
        if (slot < 0 || slot >= SLOTS) {
            return BAD_VALUE;
        }
        slots[slot].copyFrom(now);
        filled[slot] = true;
        return now.candidates.countStanding();
    }

    public int restore(int slot) {
        if (slot < 0 || slot >= SLOTS) {
            return BAD_VALUE;
        }
        if (!filled[slot]) {
            return NOT_POSSIBLE;
        }
        history.prepare(now);
        now.copyFrom(slots[slot]);
        return history.confirm(now.candidates.countStanding());
    }

    /** The calls of the machine record nothing: only the whole text is a change. */
    private int carryOrderOut() {
        switch (reader.kind) {
            case 'c': return now.addCandidate(reader.claim);
            case 's': return now.addStep(reader.claim, reader.how, reader.x, reader.y, reader.k);
            case 'r': return now.makeRun(reader.seed, reader.moves);
            default: return now.makeRounds(survey.allowed);
        }
    }

    private static boolean isState(int state) {
        return state >= 0 && state < STATES;
    }

    private static int asNumber(boolean yes) {
        return yes ? 1 : 0;
    }

    /** What the codes of claims tell. */
    private static final class Claims {
        static int encode(int form, int x, int y, int k) {
            return isClaim(form, x, y, k) ? 15 * (9 * form + 3 * x + y) + k + 7 : BAD_VALUE;
        }

        static boolean isCode(int code) {
            if (code < 0) {
                return false;
            }
            int place = code / 15;
            return isClaim(place / 9, place % 9 / 3, place % 3, code % 15 - 7);
        }

        private static boolean isClaim(int form, int x, int y, int k) {
            if (x < 0 || x > 2 || y < 0 || y > 2) {
                return false;
            }
            switch (form) {
                case ALWAYS: return x == 0 && y == 0 && k == 0;
                case IS:
                case NOT:
                case AT_MOST:
                case AT_LEAST: return y == 0 && isDigit(k);
                case SAME:
                case UNLIKE:
                case LESS: return y != x && isOffset(k);
                case SUM: return y > x && isDigit(k);
                case EVEN: return y > x && (k == 0 || k == 1);
                default: return false;
            }
        }

        static boolean isDigit(int k) {
            return k >= 0 && k <= 7;
        }

        static boolean isOffset(int k) {
            return k >= -7 && k <= 7;
        }

        /** The number 0, 1 or 2 of a state. */
        static int numberOf(int state, int which) {
            return (state >> (6 - 3 * which)) & 7;
        }

        static boolean isMetBy(int code, int state) {
            int place = code / 15;
            int k = code % 15 - 7;
            int x = numberOf(state, place % 9 / 3);
            int y = numberOf(state, place % 3);
            switch (place / 9) {
                case IS: return x == k;
                case NOT: return x != k;
                case AT_MOST: return x <= k;
                case AT_LEAST: return x >= k;
                case SAME: return x == y + k;
                case UNLIKE: return x != y + k;
                case LESS: return x <= y + k;
                case SUM: return x + y == k;
                case EVEN: return ((x + y + k) & 1) == 0;
                default: return true;
            }
        }
    }

    /** A set of states, a bit each. */
    private static final class StateSet {
        private final long[] words;

        StateSet() {
            words = new long[STATES / 64];
        }

        void clear() {
            for (int i = 0; i < words.length; i++) {
                words[i] = 0;
            }
        }

        void fill() {
            for (int i = 0; i < words.length; i++) {
                words[i] = -1L;
            }
        }

        void copyFrom(StateSet other) {
            System.arraycopy(other.words, 0, words, 0, words.length);
        }

        boolean has(int state) {
            return isState(state) && ((words[state >> 6] >>> (state & 63)) & 1L) != 0;
        }

        void add(int state) {
            if (isState(state)) {
                words[state >> 6] |= 1L << (state & 63);
            }
        }

        int size() {
            int size = 0;
            for (int i = 0; i < words.length; i++) {
                size += Long.bitCount(words[i]);
            }
            return size;
        }

        /** The lowest state of the set in which a claim does not hold, NONE if there is none. */
        int firstMiss(int claim) {
            for (int state = 0; state < STATES; state++) {
                if (has(state) && !Claims.isMetBy(claim, state)) {
                    return state;
                }
            }
            return NONE;
        }
    }

    /** The steps, in the order in which they came. */
    private static final class Steps {
        int count;
        final int[] guard;
        final int[] how;
        final int[] x;
        final int[] y;
        final int[] k;

        Steps() {
            guard = new int[MOST_STEPS];
            how = new int[MOST_STEPS];
            x = new int[MOST_STEPS];
            y = new int[MOST_STEPS];
            k = new int[MOST_STEPS];
        }

        void copyFrom(Steps other) {
            count = other.count;
            for (int i = 0; i < MOST_STEPS; i++) {
                copyStep(other, i, i);
            }
        }

        boolean has(int step) {
            return step >= 0 && step < count;
        }

        static boolean isAction(int how, int x, int y, int k) {
            if (x < 0 || x > 2 || y < 0 || y > 2) {
                return false;
            }
            switch (how) {
                case PUT: return y == 0 && Claims.isDigit(k);
                case COPY: return Claims.isOffset(k);
                case SWAP: return y != x && k == 0;
                default: return false;
            }
        }

        int add(int newGuard, int newHow, int newX, int newY, int newK) {
            if (!Claims.isCode(newGuard) || !isAction(newHow, newX, newY, newK)) {
                return BAD_VALUE;
            }
            if (count >= MOST_STEPS) {
                return TOO_MANY;
            }
            guard[count] = newGuard;
            how[count] = newHow;
            x[count] = newX;
            y[count] = newY;
            k[count] = newK;
            count++;
            return count - 1;
        }

        int remove(int step) {
            if (!has(step)) {
                return NO_SUCH;
            }
            for (int i = step + 1; i < count; i++) {
                copyStep(this, i, i - 1);
            }
            count--;
            return count;
        }

        private void copyStep(Steps other, int from, int to) {
            guard[to] = other.guard[from];
            how[to] = other.how[from];
            x[to] = other.x[from];
            y[to] = other.y[from];
            k[to] = other.k[from];
        }

        /** Where a step that there is leads, NONE if it cannot be made. */
        int target(int step, int state, boolean wraps) {
            if (!Claims.isMetBy(guard[step], state)) {
                return NONE;
            }
            int other = Claims.numberOf(state, y[step]);
            switch (how[step]) {
                case PUT: return replace(state, x[step], k[step]);
                case COPY:
                    int sum = other + k[step];
                    // from -7 to 14, of which the lowest three bits are the number that wraps
                    return wraps || Claims.isDigit(sum) ? replace(state, x[step], sum & 7) : NONE;
                default:
                    int swapped = replace(state, y[step], Claims.numberOf(state, x[step]));
                    return replace(swapped, x[step], other);
            }
        }

        private static int replace(int state, int which, int number) {
            int shift = 6 - 3 * which;
            return (state & ~(7 << shift)) | (number << shift);
        }
    }

    /** The candidates, in the order in which they came, each with what became of it. */
    private static final class Candidates {
        int count;
        final int[] code;
        final int[] fate;
        final int[] state;
        final int[] number;
        final int[] round;

        Candidates() {
            code = new int[MOST_CANDIDATES];
            fate = new int[MOST_CANDIDATES];
            state = new int[MOST_CANDIDATES];
            number = new int[MOST_CANDIDATES];
            round = new int[MOST_CANDIDATES];
        }

        void copyFrom(Candidates other) {
            count = other.count;
            System.arraycopy(other.code, 0, code, 0, MOST_CANDIDATES);
            System.arraycopy(other.fate, 0, fate, 0, MOST_CANDIDATES);
            System.arraycopy(other.state, 0, state, 0, MOST_CANDIDATES);
            System.arraycopy(other.number, 0, number, 0, MOST_CANDIDATES);
            System.arraycopy(other.round, 0, round, 0, MOST_CANDIDATES);
        }

        boolean has(int candidate) {
            return candidate >= 0 && candidate < count;
        }

        boolean hasCode(int claim) {
            for (int i = 0; i < count; i++) {
                if (code[i] == claim) {
                    return true;
                }
            }
            return false;
        }

        void setFate(int candidate, int newFate, int byState, int byNumber, int inRound) {
            fate[candidate] = newFate;
            state[candidate] = byState;
            number[candidate] = byNumber;
            round[candidate] = inRound;
        }

        int countStanding() {
            return Long.bitCount(findStanding());
        }

        long findStanding() {
            long standing = 0;
            for (int i = 0; i < count; i++) {
                if (fate[i] == STANDS) {
                    standing |= 1L << i;
                }
            }
            return standing;
        }

        boolean standsAgainst(int candidate, int where) {
            return fate[candidate] == STANDS && !Claims.isMetBy(code[candidate], where);
        }

        /** The first candidate from one on that stands, but does not hold in a state; else their count. */
        int nextMiss(int where, int from) {
            for (int i = from; i < count; i++) {
                if (standsAgainst(i, where)) {
                    return i;
                }
            }
            return count;
        }

        boolean allow(int where) {
            for (int i = 0; i < count; i++) {
                if (fate[i] == STANDS && !Claims.isMetBy(code[i], where)) {
                    return false;
                }
            }
            return true;
        }

        /** A candidate is needed if there is a state in which it alone does not hold. */
        long findNeedless() {
            long needless = findStanding();
            for (int where = 0; where < STATES; where++) {
                int miss = nextMiss(where, 0);
                if (miss < count && nextMiss(where, miss + 1) == count) {
                    needless &= ~(1L << miss);
                }
            }
            return needless;
        }
    }

    /** The states that are seen, in the order in which they were seen first; the start state leads. */
    private static final class Seen {
        int count;
        /** Each 512 times the run that saw it first, plus the state. */
        private final int[] order;
        final StateSet states;

        Seen() {
            order = new int[STATES];
            states = new StateSet();
        }

        void copyFrom(Seen other) {
            count = other.count;
            System.arraycopy(other.order, 0, order, 0, other.count);
            states.copyFrom(other.states);
        }

        void beginAt(int start) {
            count = 0;
            states.clear();
            add(start, 0);
        }

        boolean add(int state, int run) {
            if (states.has(state) || count >= STATES) {
                return false;
            }
            order[count] = STATES * run + state;
            count++;
            states.add(state);
            return true;
        }

        int stateAt(int place) {
            return order[place] % STATES;
        }

        int runAt(int place) {
            return order[place] / STATES;
        }

        /** The place of the first state that was seen and in which a claim does not hold, or NONE. */
        int firstMiss(int claim) {
            for (int place = 0; place < count; place++) {
                if (!Claims.isMetBy(claim, stateAt(place))) {
                    return place;
                }
            }
            return NONE;
        }
    }

    /** All that undo and restore bring back. */
    private static final class Machine {
        int start;
        int wrap;
        int runs;
        int rounds;
        final Steps steps;
        final Candidates candidates;
        final Seen seen;

        Machine() {
            steps = new Steps();
            candidates = new Candidates();
            seen = new Seen();
            seen.beginAt(start);
        }

        void copyFrom(Machine other) {
            start = other.start;
            wrap = other.wrap;
            runs = other.runs;
            rounds = other.rounds;
            steps.copyFrom(other.steps);
            candidates.copyFrom(other.candidates);
            seen.copyFrom(other.seen);
        }

        private void beginAnew() {
            runs = 0;
            rounds = 0;
            seen.beginAt(start);
            for (int i = 0; i < candidates.count; i++) {
                judgeBySeen(i);
            }
        }

        private void judgeBySeen(int candidate) {
            int place = seen.firstMiss(candidates.code[candidate]);
            if (place < 0) {
                candidates.setFate(candidate, STANDS, NONE, NONE, NONE);
            } else if (place == 0) {
                candidates.setFate(candidate, BY_START, start, NONE, NONE);
            } else {
                candidates.setFate(candidate, BY_RUN, seen.stateAt(place), seen.runAt(place), NONE);
            }
        }

        int setStart(int a, int b, int c) {
            if (!Claims.isDigit(a) || !Claims.isDigit(b) || !Claims.isDigit(c)) {
                return BAD_VALUE;
            }
            int before = start;
            start = 64 * a + 8 * b + c;
            beginAnew();
            return before;
        }

        int setWrap(int on) {
            if (on != 0 && on != 1) {
                return BAD_VALUE;
            }
            int before = wrap;
            wrap = on;
            beginAnew();
            return before;
        }

        int addStep(int guard, int how, int x, int y, int k) {
            int answer = steps.add(guard, how, x, y, k);
            if (answer >= 0) {
                beginAnew();
            }
            return answer;
        }

        int removeStep(int step) {
            int answer = steps.remove(step);
            if (answer >= 0) {
                beginAnew();
            }
            return answer;
        }

        int addCandidate(int claim) {
            if (!Claims.isCode(claim)) {
                return BAD_VALUE;
            }
            int added = candidates.count;
            if (added >= MOST_CANDIDATES) {
                return TOO_MANY;
            }
            if (candidates.hasCode(claim)) {
                return NOT_POSSIBLE;
            }
            candidates.code[added] = claim;
            candidates.count++;
            judgeBySeen(added);
            return added;
        }

        int addGuesses(int form) {
            if (form < IS || form > EVEN) {
                return BAD_VALUE;
            }
            int come = 0;
            int first = CODES_OF_A_FORM * form;
            for (int claim = first; claim < first + CODES_OF_A_FORM; claim++) {
                if (Claims.isCode(claim) && seen.firstMiss(claim) == NONE && addCandidate(claim) >= 0) {
                    come++;
                }
            }
            return come;
        }

        int target(int step, int state) {
            return steps.has(step) ? steps.target(step, state, wrap == 1) : NONE;
        }

        int makeRun(int seed, int length) {
            if (seed < 0 || length < 1 || length > MOST_MOVES) {
                return BAD_VALUE;
            }
            int before = seen.count;
            long x = seed;
            int state = start;
            for (int move = 0; move < length; move++) {
                x = (x * 1103515245L + 12345L) % 2147483648L;
                state = pickTarget(state, x / 65536);
                if (state == NONE) {
                    break;
                }
                if (seen.add(state, runs)) {
                    strikeByRun(state);
                }
            }
            runs++;
            return seen.count - before;
        }

        /** Where the step leads that is picked of those that can be made, NONE if there is none. */
        private int pickTarget(int state, long picked) {
            int able = 0;
            for (int step = 0; step < steps.count; step++) {
                if (target(step, state) != NONE) {
                    able++;
                }
            }
            long ahead = able == 0 ? 0 : picked % able;
            for (int step = 0; step < steps.count; step++) {
                int to = target(step, state);
                if (to != NONE && ahead == 0) {
                    return to;
                }
                ahead -= asNumber(to != NONE);
            }
            return NONE;
        }

        private void strikeByRun(int state) {
            for (int i = 0; i < candidates.count; i++) {
                if (candidates.standsAgainst(i, state)) {
                    candidates.setFate(i, BY_RUN, state, runs, NONE);
                }
            }
        }

        void findAllowed(StateSet allowed) {
            allowed.clear();
            for (int state = 0; state < STATES; state++) {
                if (candidates.allow(state)) {
                    allowed.add(state);
                }
            }
        }

        int countAble(int step, StateSet among) {
            int able = 0;
            for (int state = 0; state < STATES; state++) {
                if (among.has(state) && target(step, state) != NONE) {
                    able++;
                }
            }
            return able;
        }

        /** Whether no step leads out of a set of states. */
        boolean keeps(StateSet set) {
            for (int state = 0; state < STATES; state++) {
                for (int step = 0; step < steps.count && set.has(state); step++) {
                    int to = target(step, state);
                    if (to != NONE && !set.has(to)) {
                        return false;
                    }
                }
            }
            return true;
        }

        /** The allowed states are those before the round, although it strikes out as it goes. */
        int makeRound(StateSet allowed) {
            findAllowed(allowed);
            int struck = 0;
            for (int state = 0; state < STATES; state++) {
                for (int step = 0; step < steps.count && allowed.has(state); step++) {
                    int to = target(step, state);
                    if (to != NONE && !allowed.has(to)) {
                        struck += strikeByStep(step, state, to);
                    }
                }
            }
            if (struck > 0) {
                rounds++;
            }
            return struck;
        }

        private int strikeByStep(int step, int from, int to) {
            int struck = 0;
            for (int i = 0; i < candidates.count; i++) {
                if (candidates.standsAgainst(i, to)) {
                    candidates.setFate(i, BY_STEP, from, step, rounds + 1);
                    struck++;
                }
            }
            return struck;
        }

        /** Each round but the last strikes a candidate out at least. */
        int makeRounds(StateSet allowed) {
            int made = 0;
            while (made < MOST_CANDIDATES && makeRound(allowed) > 0) {
                made++;
            }
            return made;
        }
    }

    /** The states before the latest changes, the oldest first; the place behind them is spare. */
    private static final class History {
        int count;
        private final Machine[] kept;

        History() {
            kept = new Machine[MOST_KEPT + 1];
            for (int i = 0; i < kept.length; i++) {
                kept[i] = new Machine();
            }
        }

        /** Copies the state to the spare place, where it counts for nothing until it is confirmed. */
        void prepare(Machine now) {
            kept[count].copyFrom(now);
        }

        /** Records the prepared state if the answer of the change is no error. */
        int confirm(int answer) {
            if (answer < 0) {
                return answer;
            }
            if (count < MOST_KEPT) {
                count++;
            } else {
                moveOldestBehind();
            }
            return answer;
        }

        private void moveOldestBehind() {
            Machine oldest = kept[0];
            for (int i = 0; i < MOST_KEPT; i++) {
                kept[i] = kept[i + 1];
            }
            kept[MOST_KEPT] = oldest;
        }

        boolean takeBack(Machine now) {
            if (count <= 0) {
                return false;
            }
            count--;
            now.copyFrom(kept[count]);
            return true;
        }
    }

    /** Rows that questions fill anew each time, so that no call has to make any. */
    private static final class Survey {
        final StateSet all;
        final StateSet allowed;
        final StateSet reached;
        private final int[] queue;
        /** How many candidates of those that are left do not hold in a state. */
        private final int[] misses;

        Survey() {
            all = new StateSet();
            allowed = new StateSet();
            reached = new StateSet();
            queue = new int[STATES];
            misses = new int[STATES];
        }

        void findReached(Machine machine) {
            reached.clear();
            reached.add(machine.start);
            queue[0] = machine.start;
            int end = 1;
            for (int at = 0; at < end && at < STATES; at++) {
                for (int step = 0; step < machine.steps.count; step++) {
                    int to = machine.target(step, queue[at]);
                    if (to != NONE && !reached.has(to) && end < STATES) {
                        reached.add(to);
                        queue[end] = to;
                        end++;
                    }
                }
            }
        }

        /** Finds the allowed states, too. No step refutes a candidate if all steps lead to allowed states. */
        boolean isKernel(Machine machine) {
            machine.findAllowed(allowed);
            return machine.keeps(allowed);
        }

        long findCore(Machine machine, int claim) {
            Candidates candidates = machine.candidates;
            long left = candidates.findStanding();
            countMisses(candidates);
            for (int i = 0; i < candidates.count; i++) {
                if (candidates.fate[i] != STANDS) {
                    continue;
                }
                addMisses(candidates.code[i], -1);
                if (isEnough(machine, claim)) {
                    left &= ~(1L << i);
                } else {
                    addMisses(candidates.code[i], 1);
                }
            }
            return left;
        }

        private void countMisses(Candidates candidates) {
            for (int state = 0; state < STATES; state++) {
                misses[state] = 0;
            }
            for (int i = 0; i < candidates.count; i++) {
                if (candidates.fate[i] == STANDS) {
                    addMisses(candidates.code[i], 1);
                }
            }
        }

        private void addMisses(int claim, int more) {
            for (int state = 0; state < STATES; state++) {
                if (!Claims.isMetBy(claim, state)) {
                    misses[state] += more;
                }
            }
        }

        private boolean isEnough(Machine machine, int claim) {
            allowed.clear();
            for (int state = 0; state < STATES; state++) {
                if (misses[state] == 0) {
                    allowed.add(state);
                }
            }
            return allowed.firstMiss(claim) == NONE && machine.keeps(allowed);
        }
    }

    /** The text of orders. */
    private static final class Pad {
        int length;
        private final char[] signs;

        Pad() {
            signs = new char[MOST_SIGNS];
        }

        /** The character at a place, 0 behind the last one. */
        int signAt(int place) {
            return place >= 0 && place < length ? signs[place] : 0;
        }

        /** How many characters a number gives, 0 if it gives none or is wrong. */
        static int countSigns(long characters) {
            int many = 0;
            long rest = characters;
            while (many < 8 && rest != 0) {
                long sign = rest & 255;
                // a sign 0 is refused here too, as something above it is not 0
                if (sign < 33 || sign > 126) {
                    return 0;
                }
                rest >>>= 8;
                many++;
            }
            return many;
        }

        void append(long characters, int many) {
            for (int i = many - 1; i >= 0 && length < MOST_SIGNS; i--) {
                signs[length] = (char) ((characters >>> (8 * i)) & 255);
                length++;
            }
        }
    }

    /**
     * Reads the pad from left to right. A reading that fails leaves the place at the first character
     * that cannot stand there, or at the end of a text that ends too early.
     */
    private static final class Reader {
        /** Below all that can be read. */
        private static final int ABSENT = -8;

        final Pad pad;
        private int at;
        /** The letter of the order that was read last; the others are what it tells. */
        int kind;
        int claim;
        int how;
        int x;
        int y;
        int k;
        int seed;
        int moves;

        Reader() {
            pad = new Pad();
        }

        void begin() {
            at = 0;
        }

        int findFault() {
            begin();
            for (int orders = 0; orders < MOST_SIGNS; orders++) {
                if (!readNextOrder()) {
                    return at;
                }
                if (at >= pad.length) {
                    return NONE;
                }
            }
            return at;
        }

        boolean readNextOrder() {
            if (at > 0 && !take(';')) {
                return false;
            }
            kind = pad.signAt(at);
            switch (kind) {
                case 'c':
                    at++;
                    return readClaim();
                case 's':
                    at++;
                    return readClaim() && take(':') && readAction();
                case 'r':
                    at++;
                    return readRun();
                case 'k':
                    at++;
                    return true;
                default:
                    return false;
            }
        }

        private boolean readRun() {
            seed = readNumber();
            if (seed == ABSENT || !take('*')) {
                return false;
            }
            moves = readNumber();
            return moves != ABSENT;
        }

        private boolean readClaim() {
            if (take('*')) {
                claim = Claims.encode(ALWAYS, 0, 0, 0);
                return true;
            }
            int first = readVar();
            int form = first == ABSENT ? ABSENT : readForm();
            if (form == ABSENT) {
                return false;
            }
            boolean joins = form == SUM || form == EVEN;
            int second = form == AT_LEAST ? ABSENT : readVar();
            if (joins && second == ABSENT) {
                return false;
            }
            boolean compares = !joins && second != ABSENT;
            int amount = compares ? readOffset() : readDigit();
            // SAME, UNLIKE and LESS follow one another as IS, NOT and AT_MOST do
            claim = Claims.encode(compares ? form - IS + SAME : form, first, second == ABSENT ? 0 : second, amount);
            return amount != ABSENT;
        }

        /** The form that a sign tells with a digit behind it, or with a var and a digit. */
        private int readForm() {
            int form = formOf(pad.signAt(at));
            if (form != ABSENT) {
                at++;
            }
            return form;
        }

        private static int formOf(int sign) {
            switch (sign) {
                case '=': return IS;
                case '!': return NOT;
                case '<': return AT_MOST;
                case '>': return AT_LEAST;
                case '&': return SUM;
                case '%': return EVEN;
                default: return ABSENT;
            }
        }

        private boolean readAction() {
            x = readVar();
            if (x == ABSENT) {
                return false;
            }
            if (take('~')) {
                how = SWAP;
                y = readVar();
                k = 0;
                return y != ABSENT;
            }
            if (!take('=')) {
                return false;
            }
            y = readVar();
            if (y == ABSENT) {
                how = PUT;
                y = 0;
                k = readDigit();
            } else {
                how = COPY;
                k = readOffset();
            }
            return k != ABSENT;
        }

        /** An offset may be left out; if there is a sign, a digit has to follow. */
        private int readOffset() {
            boolean below = take('-');
            if (!below && !take('+')) {
                return 0;
            }
            int digit = readDigit();
            return below && digit != ABSENT ? -digit : digit;
        }

        private boolean take(char sign) {
            if (pad.signAt(at) != sign) {
                return false;
            }
            at++;
            return true;
        }

        private int readVar() {
            return readBetween('a', 'c');
        }

        private int readDigit() {
            return readBetween('0', '7');
        }

        /** How far a character is above the lowest of a row that it belongs to. */
        private int readBetween(char lowest, char highest) {
            int sign = pad.signAt(at);
            if (sign < lowest || sign > highest) {
                return ABSENT;
            }
            at++;
            return sign - lowest;
        }

        /** 0 to 999; a digit too many is left, as it cannot stand where a number has ended. */
        private int readNumber() {
            int number = readBetween('0', '9');
            for (int digits = 1; digits < 3 && number > 0; digits++) {
                int next = readBetween('0', '9');
                if (next == ABSENT) {
                    break;
                }
                number = 10 * number + next;
            }
            return number;
        }
    }
}
