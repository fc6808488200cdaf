import java.util.ArrayList;
import java.util.HashSet;
import java.util.List;
import java.util.Set;
import java.util.regex.Matcher;
import java.util.regex.Pattern;

/**
 * Long runs of drawn calls, each answered by the class and by a second, slow program that follows the
 * document's words one by one (the Model below). What is drawn comes from a fixed row of numbers, so
 * each time the test runs, it asks the same.
 */
public final class ModelTest {
    private static final int RUNS = 200, CALLS = 512, NONE = -6;

    private long drawn;
    private TruthKernel x;
    private Model model;
    private int calls;
    private String told;

    public static void main(String[] args) {
        int wrong = 0;
        for (int run = 0; run < RUNS; run++) {
            wrong += new ModelTest().play(run) ? 0 : 1;
        }
        System.out.println(RUNS + " runs against the model, " + wrong + " of them wrong");
        System.exit(wrong == 0 ? 0 : 1);
    }

    private boolean play(int run) {
        drawn = 31L * run + 7;
        x = new TruthKernel();
        model = new Model();
        int taste = draw(4);
        // a text takes up to eleven calls
        while (calls < CALLS - 11) {
            if (!ask(taste)) {
                System.out.println("run " + run + ", call " + calls + ": " + told);
                return false;
            }
        }
        return true;
    }

    private int draw(int many) {
        drawn = drawn * 6364136223846793005L + 1442695040888963407L;
        return (int) Long.remainderUnsigned(drawn >>> 33, many);
    }

    /** Mostly a number of a range; at times one beside it or far from it. */
    private int in(int low, int high) {
        int way = draw(60);
        if (way == 0) {
            return low - 1;
        }
        if (way == 1) {
            return high + 1;
        }
        if (way == 2) {
            int[] far = {Integer.MIN_VALUE, Integer.MAX_VALUE, -1, -6, 1 << 30};
            return far[draw(far.length)];
        }
        return low + draw(high - low + 1);
    }

    private int aClaim() {
        int way = draw(80);
        if (way == 0) {
            return in(0, 1349);
        }
        if (way < 12 && model.now.candidates.size() > 0) {
            return model.now.candidates.get(draw(model.now.candidates.size())).code;
        }
        if (way < 40) {
            return Model.CODES.get(draw(Model.CODES.size()));
        }
        return aTrueClaim();
    }

    /** A claim that holds in the start state, as others are struck out at once. */
    private int aTrueClaim() {
        int code = 7;
        for (int tries = 0; tries < 20; tries++) {
            code = Model.CODES.get(draw(Model.CODES.size()));
            if (Model.holdsIn(code, model.now.start)) {
                break;
            }
        }
        return code;
    }

    private boolean same(String call, long got, long due) {
        calls++;
        told = call + " answered " + got + ", due is " + due;
        return got == due;
    }

    private boolean ask(int taste) {
        int way = draw(100);
        if (way < 40) {
            return askChange(taste);
        }
        if (way < 84) {
            return askWhatThereIs();
        }
        return askText();
    }

    private boolean askChange(int taste) {
        int way = draw(100);
        // some runs change the machine seldom, so that candidates and rounds add up
        if (way < (taste == 0 ? 20 : 4)) {
            int a = in(0, 7), b = in(0, 7), c = in(0, 7);
            return draw(2) == 0 ? same("start(" + a + ", " + b + ", " + c + ")", x.start(a, b, c), model.start(a, b, c)) : askWrap();
        }
        if (way < (taste == 1 ? 45 : 28)) {
            return model.now.steps.size() < 2 + taste * 3 / 2 + draw(7) || draw(6) == 0 ? askStep() : askDrop();
        }
        if (way < 50) {
            int claim = aClaim();
            return same("candidate(" + claim + ")", x.candidate(claim), model.candidate(claim));
        }
        if (way < 53) {
            int form = in(1, 9);
            return same("guess(" + form + ")", x.guess(form), model.guess(form));
        }
        if (way < 66) {
            int seed = draw(3) == 0 ? draw(1 << 30) : in(0, 1000), length = draw(3) == 0 ? in(1, 99) : in(1, 6);
            return same("run(" + seed + ", " + length + ")", x.run(seed, length), model.run(seed, length));
        }
        if (way < 74) {
            return same("strike()", x.strike(), model.strike());
        }
        if (way < 78) {
            return same("settle()", x.settle(), model.settle());
        }
        if (way < 90) {
            return same("undo()", x.undo(), model.undo());
        }
        int slot = in(0, 1);
        return draw(2) == 0 ? same("save(" + slot + ")", x.save(slot), model.save(slot)) : same("restore(" + slot + ")", x.restore(slot), model.restore(slot));
    }

    private boolean askWrap() {
        int on = in(0, 1);
        return same("wrap(" + on + ")", x.wrap(on), model.wrap(on));
    }

    private boolean askDrop() {
        int step = in(0, Math.max(0, model.now.steps.size() - 1));
        return same("drop(" + step + ")", x.drop(step), model.drop(step));
    }

    private boolean askStep() {
        int guard = draw(3) == 0 ? 7 : aClaim(), how = in(0, 2), to = in(0, 2), y = how == 0 ? in(0, draw(9) / 8) : in(0, 2);
        int k = how == 0 ? in(0, 7) : how == 1 ? (draw(2) == 0 ? in(-7, 7) : in(-1, 1)) : in(0, draw(9) / 8);
        return same("step(" + guard + ", " + how + ", " + to + ", " + y + ", " + k + ")", x.step(guard, how, to, y, k), model.step(guard, how, to, y, k));
    }

    private boolean askWhatThereIs() {
        int claim = aClaim(), state = in(0, 511);
        switch (draw(16)) {
            case 0: return askClaim();
            case 1: return same("holds(" + claim + ", " + state + ")", x.holds(claim, state), model.holds(claim, state));
            case 2: return askOfStep();
            case 3:
                int step = in(0, Math.max(0, model.now.steps.size() - 1));
                return same("leads(" + step + ", " + state + ")", x.leads(step, state), model.leads(step, state));
            case 4:
            case 5:
            case 6: return askOfCandidate();
            case 7:
            case 8:
                int what = in(0, 12);
                return same("count(" + what + ")", x.count(what), model.count(what));
            case 9:
                int of = draw(3) == 0 ? model.now.way.get(draw(model.now.way.size())) : state;
                return same("ofState(" + of + ")", x.ofState(of), model.ofState(of));
            case 10: return same("proves(" + claim + ")", x.proves(claim), model.proves(claim));
            case 11: return same("witness(" + claim + ")", x.witness(claim), model.witness(claim));
            case 12: return same("isTrue(" + claim + ")", x.isTrue(claim), model.isTrue(claim));
            case 13: return same("needless()", x.needless(), model.needless());
            default: return same("core(" + claim + ")", x.core(claim), model.core(claim));
        }
    }

    private boolean askClaim() {
        int form = in(0, 9), i = in(0, 2), j = draw(2) == 0 ? 0 : in(0, 2), k = draw(2) == 0 ? in(-7, 7) : in(0, 1);
        return same("claim(" + form + ", " + i + ", " + j + ", " + k + ")", x.claim(form, i, j, k), model.claim(form, i, j, k));
    }

    private boolean askOfStep() {
        int step = in(0, Math.max(0, model.now.steps.size() - 1)), what = in(0, 6);
        return same("ofStep(" + step + ", " + what + ")", x.ofStep(step, what), model.ofStep(step, what));
    }

    private boolean askOfCandidate() {
        int candidate = in(0, Math.max(0, model.now.candidates.size() - 1)), what = in(0, 4);
        return same("ofCandidate(" + candidate + ", " + what + ")", x.ofCandidate(candidate, what), model.ofCandidate(candidate, what));
    }

    private boolean askText() {
        int way = draw(40);
        if (way == 0 || way < 12 && model.fault() != NONE && draw(3) > 0) {
            return same("wipe()", x.wipe(), model.wipe());
        }
        if (way < 10) {
            return same("fault() of " + model.pad, x.fault(), model.fault());
        }
        if (way < 20) {
            String pad = model.pad;
            return same("carryOut() of " + pad, x.carryOut(), model.carryOut());
        }
        if (way == 20) {
            long any = ((long) draw(1 << 30) << 33 | draw(1 << 30)) >>> draw(64);
            return same("put(" + any + ")", x.put(any), model.put(any));
        }
        String text = way < 22 ? aWrongText() : anOrder();
        if (model.pad.length() > 0 && draw(40) > 0) {
            text = ";" + text;
        }
        if (draw(40) == 0) {
            text = text.substring(0, draw(text.length() + 1));
        }
        return write(text);
    }

    private boolean write(String text) {
        for (int at = 0; at < text.length();) {
            int many = Math.min(text.length() - at, 1 + draw(8));
            long number = 0;
            for (int i = 0; i < many; i++) {
                number = number << 8 | text.charAt(at + i);
            }
            if (!same("put(" + number + ")", x.put(number), model.put(number))) {
                return false;
            }
            at += many;
        }
        return true;
    }

    private String aWrongText() {
        String signs = "abc0123789=!<>&%~+-:*;srck";
        StringBuilder text = new StringBuilder(anOrder());
        for (int i = 0; i <= draw(3); i++) {
            text.insert(draw(text.length() + 1), signs.charAt(draw(signs.length())));
        }
        return text.toString();
    }

    private String anOrder() {
        switch (draw(7)) {
            case 0: return "k";
            case 1: return "r" + draw(draw(2) == 0 ? 12 : 1001) + "*" + draw(draw(4) == 0 ? 1001 : 30);
            case 2:
            case 3: return "s" + aClaimText() + ":" + anActionText();
            default: return "c" + aClaimText();
        }
    }

    private String aClaimText() {
        char a = aVar(), b = aVar();
        switch (draw(8)) {
            case 0: return "*";
            case 1:
            case 2: return "" + a + "=!<>".charAt(draw(4)) + draw(8);
            case 3: return "" + a + '&' + b + draw(8);
            case 4: return "" + a + '%' + b + draw(draw(4) == 0 ? 8 : 2);
            default: return "" + a + "=!<".charAt(draw(3)) + b + anOffset();
        }
    }

    private String anActionText() {
        char a = aVar(), b = aVar();
        switch (draw(3)) {
            case 0: return a + "=" + draw(8);
            case 1: return a + "=" + b + anOffset();
            default: return a + "~" + b;
        }
    }

    private char aVar() {
        return (char) ('a' + draw(3));
    }

    private String anOffset() {
        return draw(3) == 0 ? "" : (draw(2) == 0 ? "+" : "-") + draw(8);
    }

    /** The document's words, told as plainly as they can be, without a thought for speed. */
    private static final class Model {
        static final int NO_SUCH = -1, BAD_VALUE = -2, BAD_TEXT = -3, TOO_MANY = -4, NOT_POSSIBLE = -5, NONE = -6;
        static final List<Integer> CODES = allCodes();
        private static final Set<Integer> CODE_SET = new HashSet<>(CODES);
        private static final String CLAIM = "(\\*|[abc]([=!<]([0-7]|[abc]([+-][0-7])?)|>[0-7]|[&%][abc][0-7]))";
        private static final String ACTION = "([abc](=([0-7]|[abc]([+-][0-7])?)|~[abc]))";
        private static final String NUMBER = "(0|[1-9][0-9]{0,2})";
        private static final String ORDER = "(c" + CLAIM + "|s" + CLAIM + ":" + ACTION + "|r" + NUMBER + "\\*" + NUMBER + "|k)";
        private static final Pattern TEXT = Pattern.compile(ORDER + "(;" + ORDER + ")*");

        Now now = new Now();
        String pad = "";
        private final List<Now> history = new ArrayList<>();
        private final Now[] slots = new Now[2];

        private static final class Step {
            final int guard, how, x, y, k;

            Step(int guard, int how, int x, int y, int k) {
                this.guard = guard;
                this.how = how;
                this.x = x;
                this.y = y;
                this.k = k;
            }
        }

        private static final class Cand {
            int code, fate, by = NONE, number = NONE, round = NONE;

            Cand(int code) {
                this.code = code;
            }

            Cand copy() {
                Cand copy = new Cand(code);
                copy.struck(fate, by, number, round);
                return copy;
            }

            void struck(int fate, int by, int number, int round) {
                this.fate = fate;
                this.by = by;
                this.number = number;
                this.round = round;
            }
        }

        private static final class Now {
            int start, wrap, rounds;
            final List<Step> steps = new ArrayList<>();
            final List<Cand> candidates = new ArrayList<>();
            /** All states in the order in which they came up, the start state ahead of all runs, with repeats. */
            final List<Integer> way = new ArrayList<>(List.of(0));
            /** How long the way was before each run. */
            final List<Integer> runs = new ArrayList<>();

            Now copy() {
                Now copy = new Now();
                copy.start = start;
                copy.wrap = wrap;
                copy.rounds = rounds;
                copy.steps.addAll(steps);
                for (Cand c : candidates) {
                    copy.candidates.add(c.copy());
                }
                copy.way.clear();
                copy.way.addAll(way);
                copy.runs.addAll(runs);
                return copy;
            }

            void anew() {
                way.clear();
                way.add(start);
                runs.clear();
                rounds = 0;
                for (Cand c : candidates) {
                    if (holdsIn(c.code, start)) {
                        c.struck(0, NONE, NONE, NONE);
                    } else {
                        c.struck(1, start, NONE, NONE);
                    }
                }
            }
        }

        private static List<Integer> allCodes() {
            List<Integer> codes = new ArrayList<>();
            codes.add(7);
            for (int form = 1; form <= 9; form++) {
                for (int x = 0; x < 3; x++) {
                    for (int y = 0; y < 3; y++) {
                        for (int k = -7; k <= 7; k++) {
                            boolean one = form <= 4 && y == 0 && k >= 0;
                            boolean two = form >= 5 && form <= 7 && x != y;
                            boolean pair = form >= 8 && x < y && k >= 0 && (form == 8 || k <= 1);
                            if (one || two || pair) {
                                codes.add(15 * (9 * form + 3 * x + y) + k + 7);
                            }
                        }
                    }
                }
            }
            return codes;
        }

        static boolean holdsIn(int code, int state) {
            int[] n = {state / 64, state / 8 % 8, state % 8};
            int form = code / 15 / 9, x = n[code / 15 % 9 / 3], y = n[code / 15 % 3], k = code % 15 - 7;
            return form == 0 || form == 1 && x == k || form == 2 && x != k || form == 3 && x <= k || form == 4 && x >= k || form == 5 && x == y + k
                || form == 6 && x != y + k || form == 7 && x <= y + k || form == 8 && x + y == k || form == 9 && (x + y + k) % 2 == 0;
        }

        private boolean isCode(int code) {
            return CODE_SET.contains(code);
        }

        private static boolean isIn(int number, int low, int high) {
            return low <= number && number <= high;
        }

        private static int asNumber(boolean yes) {
            return yes ? 1 : 0;
        }

        /** Records the state before a change; only called when no error applies. */
        private void record() {
            history.add(now);
            if (history.size() > 6) {
                history.remove(0);
            }
            now = now.copy();
        }

        int start(int a, int b, int c) {
            if (!isIn(a, 0, 7) || !isIn(b, 0, 7) || !isIn(c, 0, 7)) {
                return BAD_VALUE;
            }
            record();
            int before = now.start;
            now.start = 64 * a + 8 * b + c;
            now.anew();
            return before;
        }

        int wrap(int on) {
            if (!isIn(on, 0, 1)) {
                return BAD_VALUE;
            }
            record();
            int before = now.wrap;
            now.wrap = on;
            now.anew();
            return before;
        }

        private int whyNoStep(int guard, int how, int x, int y, int k) {
            boolean put = how == 0 && isIn(x, 0, 2) && y == 0 && isIn(k, 0, 7);
            boolean copy = how == 1 && isIn(x, 0, 2) && isIn(y, 0, 2) && isIn(k, -7, 7);
            boolean swap = how == 2 && isIn(x, 0, 2) && isIn(y, 0, 2) && x != y && k == 0;
            if (!isCode(guard) || !put && !copy && !swap) {
                return BAD_VALUE;
            }
            return now.steps.size() == 8 ? TOO_MANY : 0;
        }

        int step(int guard, int how, int x, int y, int k) {
            int why = whyNoStep(guard, how, x, y, k);
            if (why < 0) {
                return why;
            }
            record();
            return comesStep(guard, how, x, y, k);
        }

        private int comesStep(int guard, int how, int x, int y, int k) {
            now.steps.add(new Step(guard, how, x, y, k));
            now.anew();
            return now.steps.size() - 1;
        }

        int drop(int step) {
            if (!isIn(step, 0, now.steps.size() - 1)) {
                return NO_SUCH;
            }
            record();
            now.steps.remove(step);
            now.anew();
            return now.steps.size();
        }

        private boolean isCandidate(int claim) {
            return now.candidates.stream().anyMatch(c -> c.code == claim);
        }

        private int whyNoCandidate(int claim) {
            if (!isCode(claim)) {
                return BAD_VALUE;
            }
            if (now.candidates.size() == 40) {
                return TOO_MANY;
            }
            return isCandidate(claim) ? NOT_POSSIBLE : 0;
        }

        int candidate(int claim) {
            int why = whyNoCandidate(claim);
            if (why < 0) {
                return why;
            }
            record();
            return comesCandidate(claim);
        }

        private int comesCandidate(int claim) {
            Cand c = new Cand(claim);
            now.candidates.add(c);
            for (int i = 0; i < now.way.size() && c.fate == 0; i++) {
                if (!holdsIn(claim, now.way.get(i))) {
                    strikeByTheWay(c, i);
                }
            }
            return now.candidates.size() - 1;
        }

        private void strikeByTheWay(Cand c, int place) {
            int run = -1;
            for (int r = 0; r < now.runs.size(); r++) {
                if (now.runs.get(r) <= place) {
                    run = r;
                }
            }
            c.struck(place == 0 ? 1 : 2, now.way.get(place), place == 0 ? NONE : run, NONE);
        }

        int guess(int form) {
            if (!isIn(form, 1, 9)) {
                return BAD_VALUE;
            }
            record();
            int come = 0;
            for (int code : CODES) {
                if (code / 15 / 9 == form && now.way.stream().allMatch(s -> holdsIn(code, s)) && whyNoCandidate(code) == 0) {
                    comesCandidate(code);
                    come++;
                }
            }
            return come;
        }

        /** Where a step leads from a state, NONE if it cannot be made in it. */
        private int after(Step step, int state) {
            if (!holdsIn(step.guard, state)) {
                return NONE;
            }
            int[] n = {state / 64, state / 8 % 8, state % 8};
            int old = n[step.x];
            n[step.x] = step.how == 0 ? step.k : step.how == 1 ? n[step.y] + step.k : n[step.y];
            if (step.how == 2) {
                n[step.y] = old;
            }
            if (!isIn(n[step.x], 0, 7)) {
                if (now.wrap == 0) {
                    return NONE;
                }
                n[step.x] += n[step.x] > 7 ? -8 : 8;
            }
            return 64 * n[0] + 8 * n[1] + n[2];
        }

        int run(int seed, int length) {
            if (seed < 0 || !isIn(length, 1, 99)) {
                return BAD_VALUE;
            }
            record();
            return makeRun(seed, length);
        }

        private int makeRun(int seed, int length) {
            int seenBefore = new HashSet<>(now.way).size();
            now.runs.add(now.way.size());
            long x = seed;
            int state = now.start;
            for (int move = 0; move < length; move++) {
                x = (x * 1103515245 + 12345) % 2147483648L;
                List<Integer> next = new ArrayList<>();
                for (Step step : now.steps) {
                    if (after(step, state) != NONE) {
                        next.add(after(step, state));
                    }
                }
                if (next.isEmpty()) {
                    break;
                }
                state = next.get((int) (x / 65536 % next.size()));
                boolean fresh = !now.way.contains(state);
                now.way.add(state);
                for (Cand c : now.candidates) {
                    if (fresh && c.fate == 0 && !holdsIn(c.code, state)) {
                        c.struck(2, state, now.runs.size() - 1, NONE);
                    }
                }
            }
            return new HashSet<>(now.way).size() - seenBefore;
        }

        private boolean isAllowed(int state) {
            return now.candidates.stream().allMatch(c -> c.fate != 0 || holdsIn(c.code, state));
        }

        private boolean[] allowed() {
            boolean[] allowed = new boolean[512];
            for (int s = 0; s < 512; s++) {
                allowed[s] = isAllowed(s);
            }
            return allowed;
        }

        int strike() {
            record();
            return makeRound();
        }

        private int makeRound() {
            boolean[] allowed = allowed();
            int struck = 0;
            for (Cand c : now.candidates) {
                for (int s = 0; s < 512 && c.fate == 0; s++) {
                    for (int i = 0; i < now.steps.size() && c.fate == 0 && allowed[s]; i++) {
                        int to = after(now.steps.get(i), s);
                        if (to != NONE && !holdsIn(c.code, to)) {
                            c.struck(3, s, i, now.rounds + 1);
                            struck++;
                        }
                    }
                }
            }
            now.rounds += struck > 0 ? 1 : 0;
            return struck;
        }

        int settle() {
            record();
            return makeRounds();
        }

        private int makeRounds() {
            int rounds = 0;
            while (makeRound() > 0) {
                rounds++;
            }
            return rounds;
        }

        int claim(int form, int x, int y, int k) {
            if (!isIn(form, 0, 9) || !isIn(x, 0, 2) || !isIn(y, 0, 2) || !isIn(k, -7, 7)) {
                return BAD_VALUE;
            }
            int code = 15 * (9 * form + 3 * x + y) + k + 7;
            return isCode(code) ? code : BAD_VALUE;
        }

        int holds(int claim, int state) {
            return !isCode(claim) || !isIn(state, 0, 511) ? BAD_VALUE : asNumber(holdsIn(claim, state));
        }

        int ofStep(int step, int what) {
            if (!isIn(step, 0, now.steps.size() - 1)) {
                return NO_SUCH;
            }
            if (!isIn(what, 0, 6)) {
                return BAD_VALUE;
            }
            Step s = now.steps.get(step);
            int able = 0;
            for (int state = 0; state < 512; state++) {
                able += after(s, state) != NONE && (what == 5 || isAllowed(state)) ? 1 : 0;
            }
            return new int[] {s.guard, s.how, s.x, s.y, s.k + 7, able, able}[what];
        }

        int leads(int step, int state) {
            if (!isIn(step, 0, now.steps.size() - 1)) {
                return NO_SUCH;
            }
            return isIn(state, 0, 511) ? after(now.steps.get(step), state) : BAD_VALUE;
        }

        int ofCandidate(int candidate, int what) {
            if (!isIn(candidate, 0, now.candidates.size() - 1)) {
                return NO_SUCH;
            }
            Cand c = now.candidates.get(candidate);
            return isIn(what, 0, 4) ? new int[] {c.code, c.fate, c.by, c.number, c.round}[what] : BAD_VALUE;
        }

        private Set<Integer> reached() {
            Set<Integer> reached = new HashSet<>();
            reached.add(now.start);
            for (int before = 0; before < reached.size();) {
                before = reached.size();
                for (int s : new ArrayList<>(reached)) {
                    for (Step step : now.steps) {
                        if (after(step, s) != NONE) {
                            reached.add(after(step, s));
                        }
                    }
                }
            }
            return reached;
        }

        int count(int what) {
            if (!isIn(what, 0, 12)) {
                return BAD_VALUE;
            }
            int standing = (int) now.candidates.stream().filter(c -> c.fate == 0).count();
            int allowed = 0;
            for (int s = 0; s < 512; s++) {
                allowed += asNumber(isAllowed(s));
            }
            return new int[] {now.steps.size(), now.candidates.size(), standing, new HashSet<>(now.way).size(), now.runs.size(), now.rounds, now.start, now.wrap,
                allowed, reached().size(), asNumber(isKernel(standing())), pad.length(), history.size()}[what];
        }

        int ofState(int state) {
            if (!isIn(state, 0, 511)) {
                return BAD_VALUE;
            }
            return asNumber(now.way.contains(state)) + 2 * asNumber(reached().contains(state)) + 4 * asNumber(isAllowed(state));
        }

        private List<Integer> standing() {
            List<Integer> standing = new ArrayList<>();
            for (int i = 0; i < now.candidates.size(); i++) {
                if (now.candidates.get(i).fate == 0) {
                    standing.add(i);
                }
            }
            return standing;
        }

        private boolean[] whereAllHold(List<Integer> some) {
            boolean[] all = new boolean[512];
            for (int s = 0; s < 512; s++) {
                all[s] = true;
                for (int i : some) {
                    all[s] &= holdsIn(now.candidates.get(i).code, s);
                }
            }
            return all;
        }

        private boolean isKernel(List<Integer> some) {
            boolean[] all = whereAllHold(some);
            for (int s = 0; s < 512; s++) {
                for (int i = 0; i < now.steps.size() && all[s]; i++) {
                    int to = after(now.steps.get(i), s);
                    for (int c : some) {
                        if (to != NONE && !holdsIn(now.candidates.get(c).code, to)) {
                            return false;
                        }
                    }
                }
            }
            return all[now.start];
        }

        private boolean prove(List<Integer> some, int claim) {
            boolean[] all = whereAllHold(some);
            for (int s = 0; s < 512; s++) {
                if (all[s] && !holdsIn(claim, s)) {
                    return false;
                }
            }
            return true;
        }

        int proves(int claim) {
            if (!isCode(claim)) {
                return BAD_VALUE;
            }
            return isKernel(standing()) ? asNumber(prove(standing(), claim)) : NOT_POSSIBLE;
        }

        int witness(int claim) {
            if (!isCode(claim)) {
                return BAD_VALUE;
            }
            for (int s = 0; s < 512; s++) {
                if (isAllowed(s) && !holdsIn(claim, s)) {
                    return s;
                }
            }
            return NONE;
        }

        int isTrue(int claim) {
            return isCode(claim) ? asNumber(reached().stream().allMatch(s -> holdsIn(claim, s))) : BAD_VALUE;
        }

        private static long asSet(List<Integer> some) {
            long set = 0;
            for (int i : some) {
                set |= 1L << i;
            }
            return set;
        }

        private static List<Integer> without(List<Integer> some, int one) {
            List<Integer> rest = new ArrayList<>(some);
            rest.remove(Integer.valueOf(one));
            return rest;
        }

        long needless() {
            List<Integer> needless = new ArrayList<>();
            for (int i : standing()) {
                if (prove(without(standing(), i), now.candidates.get(i).code)) {
                    needless.add(i);
                }
            }
            return asSet(needless);
        }

        long core(int claim) {
            if (!isCode(claim)) {
                return -2;
            }
            if (!isKernel(standing())) {
                return -5;
            }
            if (!prove(standing(), claim)) {
                return -6;
            }
            List<Integer> left = standing();
            for (int i : standing()) {
                List<Integer> fewer = without(left, i);
                left = isKernel(fewer) && prove(fewer, claim) ? fewer : left;
            }
            return asSet(left);
        }

        int put(long characters) {
            StringBuilder text = new StringBuilder();
            String hex = Long.toHexString(characters);
            hex = hex.length() % 2 == 0 ? hex : "0" + hex;
            for (int i = 0; i < hex.length(); i += 2) {
                int sign = Integer.parseInt(hex.substring(i, i + 2), 16);
                if (sign < 33 || sign > 126) {
                    return BAD_VALUE;
                }
                text.append((char) sign);
            }
            if (pad.length() + text.length() > 80) {
                return TOO_MANY;
            }
            pad += text;
            return pad.length();
        }

        int wipe() {
            int before = pad.length();
            pad = "";
            return before;
        }

        int fault() {
            for (int i = 0; i <= pad.length(); i++) {
                Matcher matcher = TEXT.matcher(pad.substring(0, i));
                if (!matcher.matches() && !matcher.hitEnd()) {
                    return i - 1;
                }
            }
            return TEXT.matcher(pad).matches() ? NONE : pad.length();
        }

        int carryOut() {
            if (fault() != NONE) {
                return BAD_TEXT;
            }
            record();
            int carried = 0;
            for (String order : pad.split(";")) {
                if (carryOut(order) < 0) {
                    break;
                }
                carried++;
            }
            pad = "";
            return carried;
        }

        private int carryOut(String order) {
            String rest = order.substring(1);
            switch (order.charAt(0)) {
                case 'k': return makeRounds();
                case 'r':
                    int seed = Integer.parseInt(rest.split("\\*")[0]), length = Integer.parseInt(rest.split("\\*")[1]);
                    return isIn(length, 1, 99) ? makeRun(seed, length) : BAD_VALUE;
                case 'c':
                    int why = whyNoCandidate(codeOf(rest));
                    return why < 0 ? why : comesCandidate(codeOf(rest));
                default:
                    int guard = codeOf(rest.split(":")[0]);
                    int[] does = actionOf(rest.split(":")[1]);
                    int whyNot = whyNoStep(guard, does[0], does[1], does[2], does[3]);
                    return whyNot < 0 ? whyNot : comesStep(guard, does[0], does[1], does[2], does[3]);
            }
        }

        /** What is behind the sign: a digit is {-1, digit}, a var is {var, offset}. */
        private static int[] valueOf(String text) {
            if (text.charAt(0) >= '0' && text.charAt(0) <= '7') {
                return new int[] {-1, text.charAt(0) - '0'};
            }
            int offset = text.length() == 1 ? 0 : Integer.parseInt(text.substring(text.charAt(1) == '+' ? 2 : 1));
            return new int[] {text.charAt(0) - 'a', offset};
        }

        private int codeOf(String text) {
            if (text.equals("*")) {
                return 7;
            }
            int x = text.charAt(0) - 'a';
            int[] value = valueOf(text.substring(2));
            switch (text.charAt(1)) {
                case '=': return value[0] < 0 ? claim(1, x, 0, value[1]) : claim(5, x, value[0], value[1]);
                case '!': return value[0] < 0 ? claim(2, x, 0, value[1]) : claim(6, x, value[0], value[1]);
                case '<': return value[0] < 0 ? claim(3, x, 0, value[1]) : claim(7, x, value[0], value[1]);
                case '>': return claim(4, x, 0, value[1]);
                case '&': return claim(8, x, value[0], value[1]);
                default: return claim(9, x, value[0], value[1]);
            }
        }

        private static int[] actionOf(String text) {
            int x = text.charAt(0) - 'a';
            int[] value = valueOf(text.substring(2));
            if (text.charAt(1) == '~') {
                return new int[] {2, x, value[0], 0};
            }
            return value[0] < 0 ? new int[] {0, x, 0, value[1]} : new int[] {1, x, value[0], value[1]};
        }

        int undo() {
            if (history.isEmpty()) {
                return NOT_POSSIBLE;
            }
            now = history.remove(history.size() - 1);
            return history.size();
        }

        int save(int slot) {
            if (!isIn(slot, 0, 1)) {
                return BAD_VALUE;
            }
            slots[slot] = now.copy();
            return standing().size();
        }

        int restore(int slot) {
            if (!isIn(slot, 0, 1)) {
                return BAD_VALUE;
            }
            if (slots[slot] == null) {
                return NOT_POSSIBLE;
            }
            record();
            now = slots[slot].copy();
            return standing().size();
        }
    }
}
