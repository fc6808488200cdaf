/**
 * A test for each promise of the document, by its number: ordinary inputs, the edges that the document
 * names, and wrong inputs. All that is due here was found by hand from the document's words.
 */
public final class PromiseTests {
    private static final int NO_SUCH = -1, BAD_VALUE = -2, BAD_TEXT = -3, TOO_MANY = -4, NOT_POSSIBLE = -5, NONE = -6;
    private static final int ALWAYS = 0, IS = 1, NOT = 2, AT_MOST = 3, AT_LEAST = 4, SAME = 5, UNLIKE = 6, LESS = 7, SUM = 8, EVEN = 9;
    private static final int PUT = 0, COPY = 1, SWAP = 2;
    private static final int A = 0, B = 1, C = 2;
    private static final int TRUE = 7;
    private static final int LOWEST = Integer.MIN_VALUE, HIGHEST = Integer.MAX_VALUE;

    private static int promise;
    private static int wrong;
    private static int asked;

    public static void main(String[] args) {
        aNewObject();
        start();
        wrap();
        step();
        drop();
        candidate();
        guess();
        run();
        strike();
        settle();
        claim();
        holds();
        ofStep();
        leads();
        ofCandidate();
        count();
        ofState();
        proves();
        witness();
        isTrue();
        needless();
        core();
        put();
        wipe();
        fault();
        carryOut();
        undo();
        save();
        restore();
        eightStepsAndFortyCandidates();
        System.out.println(asked + " answers, " + wrong + " of them wrong");
        System.exit(wrong == 0 ? 0 : 1);
    }

    private static void due(String what, long got, long want) {
        asked++;
        if (got != want) {
            wrong++;
            System.out.println("promise " + promise + ": " + what + " answered " + got + ", due is " + want);
        }
    }

    /** The code by the document's formula, without the class under test. */
    private static int code(int form, int x, int y, int k) {
        return 15 * (9 * form + 3 * x + y) + k + 7;
    }

    private static int state(int a, int b, int c) {
        return 64 * a + 8 * b + c;
    }

    private static long signs(String text) {
        long number = 0;
        for (int i = 0; i < text.length(); i++) {
            number = 256 * number + text.charAt(i);
        }
        return number;
    }

    private static void write(TruthKernel x, String text) {
        x.wipe();
        for (int i = 0; i < text.length(); i += 8) {
            x.put(signs(text.substring(i, Math.min(text.length(), i + 8))));
        }
    }

    /** A machine with the step a = a + 1, which goes from 0 to 7. */
    private static TruthKernel counter() {
        TruthKernel x = new TruthKernel();
        x.step(TRUE, COPY, A, A, 1);
        return x;
    }

    /** Three steps of which a run has to pick one at a time: b = b + 1, c = c + 1, a = a + 1. */
    private static TruthKernel threeWays() {
        TruthKernel x = new TruthKernel();
        x.step(TRUE, COPY, B, B, 1);
        x.step(TRUE, COPY, C, C, 1);
        x.step(TRUE, COPY, A, A, 1);
        return x;
    }

    /** What an object tells, so that two tellings can be compared; few calls, as an object has only 512 of them. */
    private static String tell(TruthKernel x, boolean withPadAndHistory) {
        StringBuilder told = new StringBuilder();
        for (int what = 0; what <= (withPadAndHistory ? 12 : 10); what++) {
            told.append(x.count(what)).append(' ');
        }
        for (int i = 0; i < x.count(0); i++) {
            for (int what = 0; what <= 4; what++) {
                told.append(x.ofStep(i, what)).append(' ');
            }
        }
        for (int i = 0; i < x.count(1); i++) {
            for (int what = 0; what <= 4; what++) {
                told.append(x.ofCandidate(i, what)).append(' ');
            }
        }
        for (int i = 0; i < 512; i += i < 3 ? 1 : i < 90 ? 8 : 37) {
            told.append(x.ofState(i)).append(' ');
        }
        return withPadAndHistory ? told.append(x.fault()).toString() : told.toString();
    }

    private static void dueSame(String what, String got, String want) {
        due(what, got.equals(want) ? 1 : 0, 1);
    }

    private static void aNewObject() {
        promise = 1;
        TruthKernel x = new TruthKernel();
        int[] counts = {0, 0, 0, 1, 0, 0, 0, 0, 512, 1, 1, 0, 0};
        for (int what = 0; what < counts.length; what++) {
            due("count(" + what + ")", x.count(what), counts[what]);
        }
        due("ofState(0)", x.ofState(0), 7);
        due("ofState(1)", x.ofState(1), 4);
        due("ofStep(0, 0)", x.ofStep(0, 0), NO_SUCH);
        due("ofCandidate(0, 0)", x.ofCandidate(0, 0), NO_SUCH);
        due("needless()", x.needless(), 0);
        due("fault()", x.fault(), 0);
        due("undo()", x.undo(), NOT_POSSIBLE);
        due("restore(0)", x.restore(0), NOT_POSSIBLE);
        due("restore(1)", x.restore(1), NOT_POSSIBLE);
        TruthKernel other = new TruthKernel();
        other.start(1, 2, 3);
        other.candidate(TRUE);
        other.save(0);
        due("of another object count(6)", x.count(6), 0);
        due("of another object count(1)", x.count(1), 0);
        due("of another object restore(0)", x.restore(0), NOT_POSSIBLE);
    }

    private static void start() {
        promise = 2;
        TruthKernel x = new TruthKernel();
        due("start(1, 2, 3)", x.start(1, 2, 3), 0);
        due("start(7, 7, 7)", x.start(7, 7, 7), state(1, 2, 3));
        due("start(0, 0, 7)", x.start(0, 0, 7), 511);
        due("count(6)", x.count(6), 7);
        int[][] bad = {{8, 0, 0}, {0, 8, 0}, {0, 0, 8}, {-1, 0, 0}, {0, -1, 0}, {0, 0, -1}, {LOWEST, 0, 0}, {0, HIGHEST, 0}, {0, 0, LOWEST}};
        String before = tell(x, true);
        for (int[] b : bad) {
            due("start(" + b[0] + ", " + b[1] + ", " + b[2] + ")", x.start(b[0], b[1], b[2]), BAD_VALUE);
        }
        dueSame("nothing is changed by an error", tell(x, true), before);
        beginsAnew();
        x = counter();
        x.candidate(code(AT_MOST, A, 0, 2));
        due("run(0, 2)", x.run(0, 2), 2);
        due("start(0, 0, 0)", x.start(0, 0, 0), 0);
        due("set anew to what it is: count(3)", x.count(3), 1);
        due("set anew to what it is: count(4)", x.count(4), 0);
        due("set anew to what it is: count(12)", x.count(12), 4 + 0);
    }

    /** Candidates of all fates, and what becomes of them when it is begun anew. */
    private static void beginsAnew() {
        TruthKernel x = counter();
        x.candidate(code(AT_MOST, A, 0, 1));
        x.candidate(code(IS, A, 0, 3));
        x.candidate(code(AT_MOST, A, 0, 6));
        x.candidate(code(IS, B, 0, 0));
        due("run(0, 2)", x.run(0, 2), 2);
        due("settle()", x.settle(), 1);
        int[] fates = {2, 1, 3, 0};
        for (int i = 0; i < 4; i++) {
            due("ofCandidate(" + i + ", 1)", x.ofCandidate(i, 1), fates[i]);
        }
        due("start(3, 1, 0)", x.start(3, 1, 0), 0);
        int[] anew = {1, 0, 0, 1};
        for (int i = 0; i < 4; i++) {
            due("anew ofCandidate(" + i + ", 1)", x.ofCandidate(i, 1), anew[i]);
            due("anew ofCandidate(" + i + ", 2)", x.ofCandidate(i, 2), anew[i] == 1 ? state(3, 1, 0) : NONE);
            due("anew ofCandidate(" + i + ", 3)", x.ofCandidate(i, 3), NONE);
            due("anew ofCandidate(" + i + ", 4)", x.ofCandidate(i, 4), NONE);
        }
        due("anew count(3)", x.count(3), 1);
        due("anew count(4)", x.count(4), 0);
        due("anew count(5)", x.count(5), 0);
        due("anew ofState(200)", x.ofState(200), 7);
        due("anew ofState(64)", x.ofState(64) & 1, 0);
    }

    private static void wrap() {
        promise = 3;
        TruthKernel x = counter();
        x.step(TRUE, COPY, B, A, -7);
        due("leads(0, 448)", x.leads(0, 448), NONE);
        due("leads(1, 0)", x.leads(1, 0), NONE);
        due("wrap(1)", x.wrap(1), 0);
        due("count(7)", x.count(7), 1);
        due("wrapped leads(0, 448)", x.leads(0, 448), 0);
        due("wrapped leads(1, 0)", x.leads(1, 0), 8);
        due("count(9)", x.count(9), 64);
        due("wrap(1)", x.wrap(1), 1);
        x.run(5, 9);
        due("wrap(0)", x.wrap(0), 1);
        due("count(3)", x.count(3), 1);
        due("count(4)", x.count(4), 0);
        x.run(5, 9);
        x.candidate(code(IS, A, 0, 0));
        due("ofCandidate(0, 1)", x.ofCandidate(0, 1), 2);
        due("wrap(0)", x.wrap(0), 0);
        due("set anew to what it is: count(4)", x.count(4), 0);
        due("set anew to what it is: ofCandidate(0, 1)", x.ofCandidate(0, 1), 0);
        due("count(12)", x.count(12), 6);
        String before = tell(x, true);
        for (int on : new int[] {2, -1, LOWEST, HIGHEST}) {
            due("wrap(" + on + ")", x.wrap(on), BAD_VALUE);
        }
        dueSame("nothing is changed by an error", tell(x, true), before);
        x = new TruthKernel();
        x.step(TRUE, COPY, A, B, -1);
        x.wrap(1);
        due("wrapped a = b - 1", x.leads(0, state(3, 0, 2)), state(7, 0, 2));
        due("not wrapped a = b - 1", x.leads(0, state(3, 4, 2)), state(3, 4, 2));
    }

    private static void step() {
        promise = 4;
        TruthKernel x = new TruthKernel();
        due("step PUT", x.step(TRUE, PUT, C, 0, 7), 0);
        due("step COPY", x.step(code(IS, A, 0, 0), COPY, A, B, -7), 1);
        due("step COPY of itself", x.step(TRUE, COPY, B, B, 7), 2);
        due("step SWAP", x.step(TRUE, SWAP, C, A, 0), 3);
        due("step SWAP", x.step(TRUE, SWAP, A, C, 0), 4);
        due("step as before", x.step(TRUE, SWAP, A, C, 0), 5);
        due("count(0)", x.count(0), 6);
        int[][] bad = {
            {0, PUT, A, 0, 0}, {6, PUT, A, 0, 0}, {8, PUT, A, 0, 0}, {-1, PUT, A, 0, 0}, {1350, PUT, A, 0, 0}, {LOWEST, PUT, A, 0, 0},
            {HIGHEST, PUT, A, 0, 0}, {code(SAME, A, A, 0), PUT, A, 0, 0}, {code(SUM, B, A, 0), PUT, A, 0, 0},
            {TRUE, 3, A, 0, 0}, {TRUE, -1, A, 0, 0}, {TRUE, HIGHEST, A, B, 0},
            {TRUE, PUT, 3, 0, 0}, {TRUE, PUT, -1, 0, 0}, {TRUE, PUT, A, 1, 0}, {TRUE, PUT, A, -1, 0}, {TRUE, PUT, A, 0, 8}, {TRUE, PUT, A, 0, -1},
            {TRUE, COPY, A, 3, 0}, {TRUE, COPY, A, -1, 0}, {TRUE, COPY, 3, A, 0}, {TRUE, COPY, A, B, 8}, {TRUE, COPY, A, B, -8},
            {TRUE, SWAP, A, A, 0}, {TRUE, SWAP, C, C, 0}, {TRUE, SWAP, A, B, 1}, {TRUE, SWAP, A, B, -1}, {TRUE, SWAP, A, 3, 0}, {TRUE, SWAP, -1, A, 0}};
        String before = tell(x, true);
        for (int[] b : bad) {
            String call = "step(" + b[0] + ", " + b[1] + ", " + b[2] + ", " + b[3] + ", " + b[4] + ")";
            due(call, x.step(b[0], b[1], b[2], b[3], b[4]), BAD_VALUE);
        }
        dueSame("nothing is changed by an error", tell(x, true), before);
        x.step(TRUE, PUT, A, 0, 0);
        due("the eighth step", x.step(TRUE, PUT, A, 0, 7), 7);
        due("the ninth step", x.step(TRUE, PUT, A, 0, 7), TOO_MANY);
        due("a ninth step that is none", x.step(0, PUT, A, 0, 7), BAD_VALUE);
        due("a ninth step that is none", x.step(TRUE, PUT, A, 0, 8), BAD_VALUE);
        due("count(0)", x.count(0), 8);
        x = new TruthKernel();
        x.run(0, 3);
        x.step(TRUE, PUT, B, 0, 1);
        due("begun anew by the first step: count(4)", x.count(4), 0);
        x = counter();
        x.candidate(code(IS, A, 0, 0));
        x.run(0, 3);
        due("ofCandidate(0, 1)", x.ofCandidate(0, 1), 2);
        x.step(TRUE, PUT, B, 0, 1);
        due("begun anew: ofCandidate(0, 1)", x.ofCandidate(0, 1), 0);
        due("begun anew: count(3)", x.count(3), 1);
        due("begun anew: count(4)", x.count(4), 0);
        due("count(12)", x.count(12), 4);
    }

    private static void drop() {
        promise = 5;
        TruthKernel x = new TruthKernel();
        due("drop(0)", x.drop(0), NO_SUCH);
        x.step(TRUE, PUT, A, 0, 1);
        x.step(code(IS, A, 0, 1), COPY, B, A, 2);
        x.step(code(NOT, B, 0, 1), SWAP, C, B, 0);
        String before = tell(x, true);
        for (int step : new int[] {3, -1, 8, LOWEST, HIGHEST}) {
            due("drop(" + step + ")", x.drop(step), NO_SUCH);
        }
        dueSame("nothing is changed by an error", tell(x, true), before);
        x.run(1, 9);
        x.candidate(code(IS, A, 0, 0));
        due("ofCandidate(0, 1)", x.ofCandidate(0, 1), 2);
        due("drop(0)", x.drop(0), 2);
        due("begun anew: ofCandidate(0, 1)", x.ofCandidate(0, 1), 0);
        due("begun anew: count(3)", x.count(3), 1);
        due("begun anew: count(4)", x.count(4), 0);
        int[][] moved = {{code(IS, A, 0, 1), COPY, B, A, 9}, {code(NOT, B, 0, 1), SWAP, C, B, 7}};
        for (int i = 0; i < 2; i++) {
            for (int what = 0; what < 5; what++) {
                due("moved up ofStep(" + i + ", " + what + ")", x.ofStep(i, what), moved[i][what]);
            }
        }
        due("ofStep(2, 0)", x.ofStep(2, 0), NO_SUCH);
        due("drop(2)", x.drop(2), NO_SUCH);
        due("drop(1)", x.drop(1), 1);
        due("the first one stays: ofStep(0, 1)", x.ofStep(0, 1), COPY);
        x.run(1, 9);
        due("drop(0)", x.drop(0), 0);
        due("count(0)", x.count(0), 0);
        due("begun anew by the last step: count(4)", x.count(4), 0);
        due("count(12)", x.count(12), 6);
    }

    private static void candidate() {
        promise = 6;
        TruthKernel x = threeWays();
        due("candidate(7)", x.candidate(TRUE), 0);
        due("candidate IS 0", x.candidate(code(IS, A, 0, 0)), 1);
        due("candidate IS 1", x.candidate(code(IS, A, 0, 1)), 2);
        due("the same again", x.candidate(TRUE), NOT_POSSIBLE);
        due("the same again, struck out", x.candidate(code(IS, A, 0, 1)), NOT_POSSIBLE);
        String before = tell(x, true);
        for (int bad : new int[] {0, 6, 8, -1, 1350, 134, code(EVEN, A, B, 2), code(SUM, A, B, 8), code(IS, A, B, 0), LOWEST, HIGHEST}) {
            due("candidate(" + bad + ")", x.candidate(bad), BAD_VALUE);
        }
        dueSame("nothing is changed by an error", tell(x, true), before);
        comesLate();
        x = new TruthKernel();
        for (int k = 0; k < 40; k++) {
            due("candidate " + k, x.candidate(code(LESS, k / 15, (k / 15 + 1) % 3, k % 15 - 7)), k);
        }
        due("the forty-first", x.candidate(TRUE), TOO_MANY);
        due("the forty-first, there already", x.candidate(code(LESS, A, B, 0)), TOO_MANY);
        due("the forty-first that is no claim", x.candidate(0), BAD_VALUE);
        due("count(1)", x.count(1), 40);
        due("count(12)", x.count(12), 6);
    }

    /** Candidates that come when states are seen already: the run that saw it first, and by its way. */
    private static void comesLate() {
        TruthKernel x = threeWays();
        x.start(0, 4, 0);
        // seed 0 picks b first (0 of 3), seed 1 and the highest one pick a (2 of 3)
        due("run(0, 1)", x.run(0, 1), 1);
        due("run(1, 1)", x.run(1, 1), 1);
        due("ofState b", x.ofState(state(0, 5, 0)) & 1, 1);
        due("ofState a", x.ofState(state(1, 4, 0)) & 1, 1);
        x.candidate(code(IS, B, 0, 4));
        x.candidate(code(IS, A, 0, 0));
        x.candidate(code(IS, A, 0, 1));
        x.candidate(code(IS, C, 0, 0));
        // both runs saw a state in which it does not hold, but the start state comes before them
        x.candidate(code(AT_LEAST, B, 0, 5));
        // the state that run 0 saw is higher than a state would have to be to be the lowest
        x.candidate(code(SAME, B, A, 4));
        int[][] due = {{2, state(0, 5, 0), 0}, {2, state(1, 4, 0), 1}, {1, state(0, 4, 0), NONE}, {0, NONE, NONE}, {1, state(0, 4, 0), NONE}, {2, state(0, 5, 0), 0}};
        for (int i = 0; i < due.length; i++) {
            for (int what = 1; what <= 3; what++) {
                due("late ofCandidate(" + i + ", " + what + ")", x.ofCandidate(i, what), due[i][what - 1]);
            }
            due("late ofCandidate(" + i + ", 4)", x.ofCandidate(i, 4), NONE);
        }
        x = new TruthKernel();
        x.start(7, 0, 0);
        x.step(code(AT_LEAST, A, 0, 1), COPY, A, A, -1);
        x.run(0, 5);
        x.candidate(code(NOT, A, 0, 4));
        x.candidate(code(IS, A, 0, 7));
        due("by their way: ofCandidate(0, 2)", x.ofCandidate(0, 2), state(4, 0, 0));
        due("by their way: ofCandidate(1, 2)", x.ofCandidate(1, 2), state(6, 0, 0));
        // a candidate that comes later is not struck out by the steps until there is a round
        x.candidate(code(AT_LEAST, A, 0, 2));
        due("ofCandidate(2, 1)", x.ofCandidate(2, 1), 0);
    }

    private static void guess() {
        promise = 7;
        TruthKernel x = counter();
        due("guess(IS)", x.guess(IS), 3);
        due("codes in order", x.ofCandidate(0, 0), code(IS, A, 0, 0));
        due("codes in order", x.ofCandidate(1, 0), code(IS, B, 0, 0));
        due("codes in order", x.ofCandidate(2, 0), code(IS, C, 0, 0));
        due("guess(IS) again", x.guess(IS), 0);
        due("also a change: count(12)", x.count(12), 3);
        String before = tell(x, true);
        for (int form : new int[] {0, 10, -1, LOWEST, HIGHEST}) {
            due("guess(" + form + ")", x.guess(form), BAD_VALUE);
        }
        dueSame("nothing is changed by an error", tell(x, true), before);
        x = counter();
        x.run(0, 2);
        // a is 0, 1 and 2 then
        x.candidate(code(AT_MOST, A, 0, 4));
        due("guess(AT_MOST)", x.guess(AT_MOST), 5 + 8 + 8);
        due("what is a candidate already does not come again", x.ofCandidate(1, 0), code(AT_MOST, A, 0, 2));
        due("what is a candidate already does not come again", x.ofCandidate(3, 0), code(AT_MOST, A, 0, 5));
        due("guess(NOT)", x.guess(NOT), 18);
        due("as far as there is room: count(1)", x.count(1), 40);
        due("ofCandidate(22, 0)", x.ofCandidate(22, 0), code(NOT, A, 0, 3));
        due("ofCandidate(39, 0)", x.ofCandidate(39, 0), code(NOT, C, 0, 6));
        due("no room: guess(EVEN)", x.guess(EVEN), 0);
        due("no room, but a change: undo()", x.undo(), 5);
        due("count(1)", x.count(1), 40);
        x = counter();
        x.run(0, 2);
        x.candidate(code(IS, A, 0, 0));
        due("struck out, and a candidate still: guess(IS)", x.guess(IS), 2);
        // b and c are 0: of 15 offsets, SAME holds for one, and with a only if a stays what it is
        due("guess(SAME)", x.guess(SAME), 2);
        // UNLIKE: b, c 14 each way; a, b: a - b is 0 to 2, so 12 each for a, b and a, c and back
        due("guess(UNLIKE)", x.guess(UNLIKE), 35);
        x = counter();
        x.run(0, 2);
        due("guess(SUM)", x.guess(SUM), 1);
        due("guess(EVEN)", x.guess(EVEN), 1);
        due("guess(AT_LEAST)", x.guess(AT_LEAST), 3);
        x = counter();
        x.run(0, 2);
        // a is at most b + 2 to b + 7, b at most a + 0 to a + 7, b at most c + 0 to c + 7
        due("guess(LESS)", x.guess(LESS), 6 + 6 + 8 + 8 + 8 + 4);
        due("guess(IS)", x.guess(IS), 0);
    }

    private static void run() {
        promise = 8;
        TruthKernel x = threeWays();
        // first picks of three: seed 0 the first, seed 1 the last, the highest seed the last
        due("run(0, 1)", x.run(0, 1), 1);
        due("seed 0 makes step 0", x.ofState(state(0, 1, 0)) & 1, 1);
        due("run(1, 1)", x.run(1, 1), 1);
        due("seed 1 makes step 2", x.ofState(state(1, 0, 0)) & 1, 1);
        due("run(HIGHEST, 1)", x.run(HIGHEST, 1), 0);
        due("count(4)", x.count(4), 3);
        due("count(3)", x.count(3), 3);
        // seed 3: 1163074432, 17747 of 3 is 2; then 1163074432 * 1103515245 + 12345
        long next = (1163074432L * 1103515245L + 12345L) % 2147483648L;
        int[] to = {state(1, 1, 0), state(1, 0, 1), state(2, 0, 0)};
        due("run(3, 2)", x.run(3, 2), 1);
        due("the second move of seed 3", x.ofState(to[(int) (next / 65536 % 3)]) & 1, 1);
        String before = tell(x, true);
        int[][] bad = {{-1, 1}, {LOWEST, 1}, {0, 0}, {0, -1}, {0, 100}, {0, HIGHEST}, {0, LOWEST}, {-1, 0}};
        for (int[] b : bad) {
            due("run(" + b[0] + ", " + b[1] + ")", x.run(b[0], b[1]), BAD_VALUE);
        }
        dueSame("nothing is changed by an error", tell(x, true), before);
        x = new TruthKernel();
        due("no step can be made: run(5, 99)", x.run(5, 99), 0);
        due("but it was a run: count(4)", x.count(4), 1);
        due("and a change: count(12)", x.count(12), 1);
        x = counter();
        due("run(9, 99) ends when no step can be made", x.run(9, 99), 7);
        due("run(9, 3)", x.run(9, 3), 0);
        // only the steps that can be made count: of three, one can be made in this state
        x = new TruthKernel();
        x.step(code(AT_LEAST, A, 0, 1), PUT, B, 0, 7);
        x.step(code(AT_LEAST, B, 0, 1), PUT, A, 0, 7);
        x.step(code(IS, C, 0, 0), PUT, C, 0, 5);
        due("run(0, 3)", x.run(0, 3), 1);
        due("ofState(5)", x.ofState(5), 7);
        strikesOnItsWay();
    }

    private static void strikesOnItsWay() {
        TruthKernel x = new TruthKernel();
        x.start(7, 0, 0);
        x.step(code(AT_LEAST, A, 0, 1), COPY, A, A, -1);
        x.candidate(code(AT_LEAST, A, 0, 6));
        x.candidate(code(AT_LEAST, A, 0, 3));
        x.candidate(code(IS, B, 0, 0));
        x.candidate(code(IS, A, 0, 5));
        x.candidate(code(NOT, A, 0, 4));
        due("run(0, 2)", x.run(0, 2), 2);
        due("struck out by run 0", x.ofCandidate(0, 1), 2);
        due("by the first state on its way", x.ofCandidate(0, 2), state(5, 0, 0));
        due("it is run 0", x.ofCandidate(0, 3), 0);
        due("no round", x.ofCandidate(0, 4), NONE);
        due("run(0, 7)", x.run(0, 7), 5);
        due("stays struck out by run 0", x.ofCandidate(0, 3), 0);
        due("stays struck out by this state", x.ofCandidate(0, 2), state(5, 0, 0));
        due("struck out by run 1", x.ofCandidate(1, 1), 2);
        due("by the first state on its way", x.ofCandidate(1, 2), state(2, 0, 0));
        due("it is run 1", x.ofCandidate(1, 3), 1);
        due("stands", x.ofCandidate(2, 1), 0);
        due("struck out by the start", x.ofCandidate(3, 1), 1);
        due("struck out by run 1", x.ofCandidate(4, 2), state(4, 0, 0));
    }

    private static void strike() {
        promise = 9;
        TruthKernel x = counter();
        x.candidate(code(AT_MOST, A, 0, 2));
        x.candidate(code(AT_MOST, A, 0, 3));
        x.candidate(code(IS, B, 0, 0));
        due("the round strikes by the allowed states: strike()", x.strike(), 1);
        due("ofCandidate(0, 1)", x.ofCandidate(0, 1), 3);
        due("the lowest allowed state", x.ofCandidate(0, 2), state(2, 0, 0));
        due("the step", x.ofCandidate(0, 3), 0);
        due("the round", x.ofCandidate(0, 4), 1);
        due("strike()", x.strike(), 1);
        due("ofCandidate(1, 2)", x.ofCandidate(1, 2), state(3, 0, 0));
        due("ofCandidate(1, 4)", x.ofCandidate(1, 4), 2);
        due("strike()", x.strike(), 0);
        due("rounds that struck something out: count(5)", x.count(5), 2);
        due("also a change: count(12)", x.count(12), 6);
        due("undo()", x.undo(), 5);
        due("count(2)", x.count(2), 1);
        due("undo()", x.undo(), 4);
        due("count(2)", x.count(2), 2);
        due("count(5)", x.count(5), 1);
        // two candidates at once, each by its lowest state and of the steps by the lowest one
        x = new TruthKernel();
        x.step(code(IS, A, 0, 1), PUT, B, 0, 7);
        x.step(TRUE, COPY, C, C, 1);
        x.step(TRUE, COPY, B, B, 1);
        x.step(TRUE, COPY, B, B, 1);
        x.candidate(code(AT_MOST, B, 0, 3));
        x.candidate(code(AT_MOST, C, 0, 3));
        x.candidate(TRUE);
        due("strike() of two at once", x.strike(), 2);
        int[][] due = {{3, state(0, 3, 0), 2, 1}, {3, state(0, 0, 3), 1, 1}, {0, NONE, NONE, NONE}};
        for (int i = 0; i < due.length; i++) {
            for (int what = 1; what <= 4; what++) {
                due("at once ofCandidate(" + i + ", " + what + ")", x.ofCandidate(i, what), due[i][what - 1]);
            }
        }
        // a state refutes by a step, but a candidate that another state refutes is still allowed for it
        x = new TruthKernel();
        x.step(code(IS, A, 0, 1), PUT, B, 0, 7);
        x.step(TRUE, COPY, C, C, 1);
        x.candidate(code(AT_MOST, B, 0, 3));
        x.candidate(code(AT_MOST, C, 0, 3));
        x.candidate(code(SUM, B, C, 0));
        due("strike() of one and of two", x.strike(), 2);
        due("ofCandidate(0, 2)", x.ofCandidate(0, 2), state(1, 0, 0));
        due("ofCandidate(0, 3)", x.ofCandidate(0, 3), 0);
        due("ofCandidate(2, 2)", x.ofCandidate(2, 2), 0);
        due("ofCandidate(2, 3)", x.ofCandidate(2, 3), 1);
        due("strike() of the last", x.strike(), 1);
        due("ofCandidate(1, 2)", x.ofCandidate(1, 2), 3);
        due("ofCandidate(1, 4)", x.ofCandidate(1, 4), 2);
        x = new TruthKernel();
        due("without steps and candidates: strike()", x.strike(), 0);
        due("count(12)", x.count(12), 1);
        // what is struck out does not forbid a state, and is not struck out again
        x = counter();
        x.candidate(code(IS, A, 0, 5));
        x.candidate(code(NOT, A, 0, 7));
        due("strike()", x.strike(), 1);
        due("ofCandidate(0, 1)", x.ofCandidate(0, 1), 1);
        due("ofCandidate(1, 2)", x.ofCandidate(1, 2), state(6, 0, 0));
    }

    private static void settle() {
        promise = 10;
        TruthKernel x = counter();
        for (int k = 1; k <= 6; k++) {
            x.candidate(code(AT_MOST, A, 0, k));
        }
        x.candidate(code(IS, C, 0, 0));
        due("settle()", x.settle(), 6);
        for (int i = 0; i < 6; i++) {
            due("ofCandidate(" + i + ", 4)", x.ofCandidate(i, 4), i + 1);
            due("ofCandidate(" + i + ", 2)", x.ofCandidate(i, 2), state(i + 1, 0, 0));
        }
        due("count(2)", x.count(2), 1);
        due("count(5)", x.count(5), 6);
        due("count(10)", x.count(10), 1);
        due("settle() again", x.settle(), 0);
        due("count(5)", x.count(5), 6);
        due("one change: undo()", x.undo(), 5);
        due("count(5)", x.count(5), 6);
        due("one change: undo()", x.undo(), 4);
        due("count(5)", x.count(5), 0);
        due("count(2)", x.count(2), 7);
        // forty candidates that fall one after the other
        x = new TruthKernel();
        x.wrap(1);
        x.step(code(AT_MOST, A, 0, 6), COPY, A, A, 1);
        due("strike()", x.strike(), 0);
        for (int k = 0; k < 7; k++) {
            x.candidate(code(AT_MOST, A, 0, k));
            x.candidate(code(LESS, A, B, k));
        }
        due("settle()", x.settle(), 7);
        due("count(2)", x.count(2), 0);
        due("settle() without candidates that stand", x.settle(), 0);
        // rounds go on being counted
        x.candidate(code(NOT, A, 0, 7));
        due("settle()", x.settle(), 1);
        due("the round", x.ofCandidate(14, 4), 8);
        due("count(5)", x.count(5), 8);
        x.wrap(1);
        due("begun anew: settle()", x.settle(), 7);
        due("begun anew: the round of the last", x.ofCandidate(12, 4), 7);
    }

    private static void claim() {
        promise = 11;
        TruthKernel x = new TruthKernel();
        int claims = 0;
        for (int form = -2; form <= 11; form++) {
            for (int i = -2; i <= 4; i++) {
                x = new TruthKernel();
                for (int j = -2; j <= 4; j++) {
                    for (int k = -9; k <= 9; k++) {
                        int want = isClaim(form, i, j, k) ? code(form, i, j, k) : BAD_VALUE;
                        due("claim(" + form + ", " + i + ", " + j + ", " + k + ")", x.claim(form, i, j, k), want);
                        claims += want >= 0 ? 1 : 0;
                    }
                }
            }
        }
        due("how many claims there are", claims, 1 + 4 * 24 + 3 * 6 * 15 + 24 + 6);
        due("claim(LOWEST, ..)", x.claim(LOWEST, LOWEST, LOWEST, LOWEST), BAD_VALUE);
        due("claim(HIGHEST, ..)", x.claim(HIGHEST, HIGHEST, HIGHEST, HIGHEST), BAD_VALUE);
        due("claim(IS, 0, 0, HIGHEST)", x.claim(IS, 0, 0, HIGHEST), BAD_VALUE);
        due("claim(EVEN, 0, 1, LOWEST)", x.claim(EVEN, 0, 1, LOWEST), BAD_VALUE);
        due("ALWAYS", x.claim(ALWAYS, 0, 0, 0), 7);
        due("a is 0", x.claim(IS, A, 0, 0), 142);
        due("b + c + 1 is even", x.claim(EVEN, B, C, 1), 1298);
        due("nothing changes: count(12)", x.count(12), 0);
    }

    private static boolean isClaim(int form, int x, int y, int k) {
        boolean vars = x >= 0 && x <= 2 && y >= 0 && y <= 2;
        switch (form) {
            case ALWAYS: return x == 0 && y == 0 && k == 0;
            case IS: case NOT: case AT_MOST: case AT_LEAST: return vars && y == 0 && k >= 0 && k <= 7;
            case SAME: case UNLIKE: case LESS: return vars && x != y && k >= -7 && k <= 7;
            case SUM: return vars && x < y && k >= 0 && k <= 7;
            case EVEN: return vars && x < y && k >= 0 && k <= 1;
            default: return false;
        }
    }

    private static void holds() {
        promise = 12;
        TruthKernel x = new TruthKernel();
        int s = state(1, 3, 6);
        due("ALWAYS", x.holds(TRUE, s), 1);
        int[][] yes = {{IS, B, 0, 3}, {NOT, B, 0, 4}, {AT_MOST, C, 0, 6}, {AT_MOST, C, 0, 7}, {AT_LEAST, C, 0, 6}, {AT_LEAST, A, 0, 0}, {SAME, C, B, 3},
            {SAME, A, C, -5}, {UNLIKE, A, B, 2}, {LESS, A, B, -2}, {LESS, A, C, -5}, {LESS, C, A, 5}, {SUM, A, B, 4}, {SUM, A, C, 7}, {EVEN, A, B, 0}, {EVEN, B, C, 1}};
        int[][] no = {{IS, B, 0, 4}, {NOT, B, 0, 3}, {AT_MOST, C, 0, 5}, {AT_LEAST, C, 0, 7}, {SAME, C, B, -3}, {SAME, A, C, 5}, {UNLIKE, A, B, -2},
            {LESS, A, B, -3}, {LESS, C, A, 4}, {SUM, A, B, 5}, {SUM, B, C, 1}, {EVEN, A, B, 1}, {EVEN, B, C, 0}, {EVEN, A, C, 0}};
        for (int[] c : yes) {
            due("holds " + c[0] + " " + c[1] + " " + c[2] + " " + c[3], x.holds(code(c[0], c[1], c[2], c[3]), s), 1);
        }
        for (int[] c : no) {
            due("holds " + c[0] + " " + c[1] + " " + c[2] + " " + c[3], x.holds(code(c[0], c[1], c[2], c[3]), s), 0);
        }
        due("holds(.., 0)", x.holds(code(IS, A, 0, 0), 0), 1);
        due("holds(.., 511)", x.holds(code(IS, C, 0, 7), 511), 1);
        for (int bad : new int[] {0, 6, 8, -1, -8, 1350, 1299, LOWEST, HIGHEST}) {
            due("holds(" + bad + ", 0)", x.holds(bad, 0), BAD_VALUE);
        }
        for (int bad : new int[] {512, -1, LOWEST, HIGHEST}) {
            due("holds(7, " + bad + ")", x.holds(TRUE, bad), BAD_VALUE);
        }
    }

    private static void ofStep() {
        promise = 13;
        TruthKernel x = new TruthKernel();
        x.step(code(LESS, A, C, -2), COPY, C, B, -3);
        x.step(TRUE, SWAP, B, A, 0);
        x.step(code(IS, B, 0, 5), PUT, B, 0, 6);
        int[][] due = {{code(LESS, A, C, -2), COPY, C, B, 4}, {TRUE, SWAP, B, A, 7}, {code(IS, B, 0, 5), PUT, B, 0, 13}};
        for (int i = 0; i < due.length; i++) {
            for (int what = 0; what < 5; what++) {
                due("ofStep(" + i + ", " + what + ")", x.ofStep(i, what), due[i][what]);
            }
        }
        // a at most c - 2 in 21 of 64 pairs, b from 3 to 7
        due("ofStep(0, 5)", x.ofStep(0, 5), 21 * 5);
        due("ofStep(1, 5)", x.ofStep(1, 5), 512);
        due("ofStep(2, 5)", x.ofStep(2, 5), 64);
        due("without candidates ofStep(0, 6)", x.ofStep(0, 6), 21 * 5);
        x.candidate(code(AT_MOST, B, 0, 4));
        x.candidate(code(IS, A, 0, 1));
        due("ofStep(0, 5)", x.ofStep(0, 5), 21 * 5);
        due("ofStep(0, 6)", x.ofStep(0, 6), 21 * 2);
        due("ofStep(1, 6)", x.ofStep(1, 6), 8 * 5 * 8);
        due("ofStep(2, 6)", x.ofStep(2, 6), 0);
        x.wrap(1);
        due("wrapped ofStep(0, 5)", x.ofStep(0, 5), 21 * 8);
        due("wrapped ofStep(0, 6)", x.ofStep(0, 6), 21 * 5);
        for (int step : new int[] {3, -1, 8, LOWEST, HIGHEST}) {
            due("ofStep(" + step + ", 0)", x.ofStep(step, 0), NO_SUCH);
            due("ofStep(" + step + ", 7)", x.ofStep(step, 7), NO_SUCH);
        }
        for (int what : new int[] {7, -1, LOWEST, HIGHEST}) {
            due("ofStep(0, " + what + ")", x.ofStep(0, what), BAD_VALUE);
        }
        due("nothing changes: count(12)", x.count(12), 6);
    }

    private static void leads() {
        promise = 14;
        TruthKernel x = new TruthKernel();
        x.step(TRUE, PUT, B, 0, 4);
        x.step(TRUE, COPY, A, C, 2);
        x.step(TRUE, COPY, B, B, -1);
        x.step(TRUE, SWAP, A, C, 0);
        x.step(code(SUM, A, B, 3), SWAP, B, C, 0);
        due("PUT", x.leads(0, state(1, 2, 3)), state(1, 4, 3));
        due("COPY", x.leads(1, state(1, 2, 3)), state(5, 2, 3));
        due("COPY at the edge", x.leads(1, state(1, 2, 5)), state(7, 2, 5));
        due("COPY above 7", x.leads(1, state(1, 2, 6)), NONE);
        due("COPY of itself", x.leads(2, state(1, 2, 3)), state(1, 1, 3));
        due("COPY below 0", x.leads(2, state(1, 0, 3)), NONE);
        due("SWAP", x.leads(3, state(1, 2, 3)), state(3, 2, 1));
        due("SWAP in its guard", x.leads(4, state(1, 2, 5)), state(1, 5, 2));
        due("SWAP out of its guard", x.leads(4, state(2, 2, 5)), NONE);
        due("leads(0, 511)", x.leads(0, 511), state(7, 4, 7));
        for (int step : new int[] {5, -1, 8, LOWEST, HIGHEST}) {
            due("leads(" + step + ", 0)", x.leads(step, 0), NO_SUCH);
            due("leads(" + step + ", 512)", x.leads(step, 512), NO_SUCH);
        }
        for (int state : new int[] {512, -1, LOWEST, HIGHEST}) {
            due("leads(0, " + state + ")", x.leads(0, state), BAD_VALUE);
            due("leads(2, " + state + ")", x.leads(2, state), BAD_VALUE);
        }
        x.wrap(1);
        due("wrapped above 7", x.leads(1, state(1, 2, 6)), state(0, 2, 6));
        due("wrapped below 0", x.leads(2, state(1, 0, 3)), state(1, 7, 3));
        due("wrapped out of its guard", x.leads(4, state(2, 2, 5)), NONE);
    }

    private static void ofCandidate() {
        promise = 15;
        TruthKernel x = new TruthKernel();
        x.start(0, 2, 0);
        x.step(code(AT_MOST, A, 0, 1), COPY, A, A, 1);
        x.step(code(AT_LEAST, A, 0, 2), COPY, C, C, 1);
        x.candidate(code(IS, B, 0, 3));
        x.candidate(code(IS, A, 0, 0));
        x.candidate(code(AT_MOST, C, 0, 5));
        x.candidate(code(IS, B, 0, 2));
        x.candidate(code(AT_MOST, C, 0, 6));
        x.run(77, 1);
        x.settle();
        int[][] due = {
            {code(IS, B, 0, 3), 1, state(0, 2, 0), NONE, NONE},
            {code(IS, A, 0, 0), 2, state(1, 2, 0), 0, NONE},
            {code(AT_MOST, C, 0, 5), 3, state(2, 2, 5), 1, 1},
            {code(IS, B, 0, 2), 0, NONE, NONE, NONE},
            {code(AT_MOST, C, 0, 6), 3, state(2, 2, 6), 1, 2}};
        for (int i = 0; i < due.length; i++) {
            for (int what = 0; what < 5; what++) {
                due("ofCandidate(" + i + ", " + what + ")", x.ofCandidate(i, what), due[i][what]);
            }
        }
        for (int candidate : new int[] {5, -1, 39, 40, LOWEST, HIGHEST}) {
            due("ofCandidate(" + candidate + ", 0)", x.ofCandidate(candidate, 0), NO_SUCH);
            due("ofCandidate(" + candidate + ", 5)", x.ofCandidate(candidate, 5), NO_SUCH);
        }
        for (int what : new int[] {5, -1, LOWEST, HIGHEST}) {
            due("ofCandidate(0, " + what + ")", x.ofCandidate(0, what), BAD_VALUE);
        }
    }

    private static void count() {
        promise = 16;
        TruthKernel x = counter();
        x.start(2, 1, 0);
        x.wrap(1);
        x.wrap(0);
        x.step(code(AT_LEAST, A, 0, 5), COPY, B, B, -1);
        x.candidate(code(AT_LEAST, A, 0, 2));
        x.candidate(code(AT_MOST, A, 0, 6));
        x.candidate(code(IS, B, 0, 0));
        x.run(0, 2);
        write(x, "ca=1;k");
        // a goes from 2 to 7, and b from 1 to 0 where a is 5 or more
        int[] before = {2, 3, 2, 3, 1, 0, state(2, 1, 0), 0, 5 * 64, 6 + 3, 0, 6, 6};
        for (int what = 0; what < before.length; what++) {
            due("count(" + what + ")", x.count(what), before[what]);
        }
        due("strike()", x.strike(), 1);
        int[] after = {2, 3, 1, 3, 1, 1, state(2, 1, 0), 0, 6 * 64, 6 + 3, 1, 6, 6};
        for (int what = 0; what < after.length; what++) {
            due("after a round count(" + what + ")", x.count(what), after[what]);
        }
        due("wrap(1)", x.wrap(1), 0);
        due("count(7)", x.count(7), 1);
        due("count(10)", x.count(10), 0);
        due("count(9)", x.count(9), 64);
        for (int what : new int[] {13, -1, LOWEST, HIGHEST}) {
            due("count(" + what + ")", x.count(what), BAD_VALUE);
        }
        x = new TruthKernel();
        x.candidate(code(IS, A, 0, 0));
        x.candidate(code(IS, B, 0, 0));
        x.candidate(code(IS, C, 0, 0));
        due("one allowed state: count(8)", x.count(8), 1);
        due("without steps a kernel: count(10)", x.count(10), 1);
        x = new TruthKernel();
        x.step(code(IS, A, 0, 5), PUT, B, 0, 7);
        x.candidate(code(IS, B, 0, 0));
        due("a state that cannot be reached refutes it: count(10)", x.count(10), 0);
        x = new TruthKernel();
        x.start(1, 0, 0);
        x.step(code(IS, A, 0, 0), PUT, B, 0, 1);
        x.candidate(code(IS, B, 0, 0));
        x.candidate(code(IS, C, 0, 0));
        due("only state 0 refutes it: count(10)", x.count(10), 0);
        due("only state 0 refutes it: proves", x.proves(TRUE), NOT_POSSIBLE);
        due("only state 0 refutes it: strike()", x.strike(), 1);
    }

    private static void ofState() {
        promise = 17;
        TruthKernel x = counter();
        x.run(0, 2);
        x.candidate(code(NOT, A, 0, 1));
        x.candidate(code(AT_MOST, B, 0, 3));
        x.candidate(code(AT_MOST, A, 0, 5));
        due("seen, reached, allowed", x.ofState(state(2, 0, 0)), 7);
        due("the start state", x.ofState(0), 7);
        due("a candidate that is struck out does not forbid it", x.ofState(state(1, 0, 0)), 7);
        due("reached, allowed", x.ofState(state(3, 0, 0)), 6);
        due("reached", x.ofState(state(6, 0, 0)), 2);
        due("allowed", x.ofState(state(0, 1, 0)), 4);
        due("nothing", x.ofState(state(0, 4, 0)), 0);
        due("nothing", x.ofState(511), 0);
        x.candidate(code(LESS, A, C, 2));
        x.run(1, 7);
        due("seen and reached", x.ofState(state(6, 0, 0)) & 3, 3);
        for (int state : new int[] {512, -1, LOWEST, HIGHEST}) {
            due("ofState(" + state + ")", x.ofState(state), BAD_VALUE);
        }
    }

    private static void proves() {
        promise = 18;
        TruthKernel x = new TruthKernel();
        x.step(TRUE, SWAP, A, B, 0);
        x.candidate(code(AT_MOST, A, 0, 3));
        due("no kernel: proves", x.proves(code(AT_MOST, A, 0, 3)), NOT_POSSIBLE);
        due("no kernel, no claim: proves", x.proves(0), BAD_VALUE);
        x.candidate(code(AT_MOST, B, 0, 3));
        due("proves what stands", x.proves(code(AT_MOST, A, 0, 3)), 1);
        due("proves what is weaker", x.proves(code(NOT, B, 0, 4)), 1);
        due("proves what follows from both", x.proves(code(LESS, A, B, 3)), 1);
        due("does not prove what is stronger", x.proves(code(LESS, A, B, 2)), 0);
        due("proves ALWAYS", x.proves(TRUE), 1);
        due("true, but not proved", x.proves(code(IS, A, 0, 0)), 0);
        for (int bad : new int[] {0, -1, 1350, LOWEST, HIGHEST}) {
            due("proves(" + bad + ")", x.proves(bad), BAD_VALUE);
        }
        due("nothing changes: count(12)", x.count(12), 3);
        x = new TruthKernel();
        due("without candidates proves ALWAYS", x.proves(TRUE), 1);
        due("without candidates proves", x.proves(code(IS, A, 0, 0)), 0);
    }

    private static void witness() {
        promise = 19;
        TruthKernel x = counter();
        x.candidate(code(AT_MOST, A, 0, 4));
        x.candidate(code(LESS, A, B, 0));
        due("the lowest one, also without a kernel", x.witness(code(IS, B, 0, 0)), state(0, 1, 0));
        due("the lowest allowed one", x.witness(code(IS, A, 0, 0)), state(1, 1, 0));
        due("in the start state", x.witness(code(IS, A, 0, 1)), 0);
        due("none", x.witness(code(AT_MOST, A, 0, 4)), NONE);
        due("none", x.witness(code(LESS, A, B, 1)), NONE);
        due("none for ALWAYS", x.witness(TRUE), NONE);
        due("a high one", x.witness(code(NOT, A, 0, 4)), state(4, 4, 0));
        for (int bad : new int[] {0, -1, 1350, LOWEST, HIGHEST}) {
            due("witness(" + bad + ")", x.witness(bad), BAD_VALUE);
        }
    }

    private static void isTrue() {
        promise = 20;
        TruthKernel x = new TruthKernel();
        x.start(6, 3, 0);
        x.step(code(AT_LEAST, A, 0, 2), COPY, A, A, -2);
        due("isTrue EVEN", x.isTrue(code(EVEN, A, C, 0)), 1);
        due("isTrue AT_LEAST 0", x.isTrue(code(AT_LEAST, A, 0, 0)), 1);
        due("not in the last state", x.isTrue(code(AT_LEAST, A, 0, 1)), 0);
        due("not in the start state", x.isTrue(code(NOT, A, 0, 6)), 0);
        due("isTrue IS", x.isTrue(code(IS, B, 0, 3)), 1);
        due("what is a candidate does not matter", x.candidate(code(AT_LEAST, A, 0, 4)), 0);
        due("not in a state that is not allowed", x.isTrue(code(AT_LEAST, A, 0, 4)), 0);
        due("isTrue ALWAYS", x.isTrue(TRUE), 1);
        x.wrap(1);
        due("also with wrap", x.isTrue(code(EVEN, A, C, 0)), 1);
        due("unlike before", x.isTrue(code(AT_MOST, A, 0, 6)), 1);
        for (int bad : new int[] {0, -1, 1350, LOWEST, HIGHEST}) {
            due("isTrue(" + bad + ")", x.isTrue(bad), BAD_VALUE);
        }
        due("nothing changes: count(12)", x.count(12), 4);
    }

    private static void needless() {
        promise = 21;
        TruthKernel x = new TruthKernel();
        due("without candidates", x.needless(), 0);
        x.candidate(TRUE);
        due("ALWAYS alone", x.needless(), 1);
        x.candidate(code(AT_MOST, A, 0, 3));
        x.candidate(code(AT_MOST, A, 0, 5));
        x.candidate(code(IS, B, 0, 1));
        x.candidate(code(LESS, A, B, 2));
        due("what follows from another", x.needless(), 1 + 4);
        // a <= 3 and b <= 2 follow from a = b and the one or the other: each from the other, not both
        x = new TruthKernel();
        x.candidate(code(SAME, A, B, 0));
        x.candidate(code(AT_MOST, A, 0, 3));
        x.candidate(code(AT_MOST, B, 0, 3));
        x.candidate(code(SAME, B, A, 0));
        due("each from all others", x.needless(), 1 + 2 + 4 + 8);
        x = new TruthKernel();
        for (int k = 0; k < 39; k++) {
            x.candidate(code(LESS, k / 13, (k / 13 + 1) % 3, k % 13 - 6));
        }
        // the start strikes out those with k below 0; a <= b, b <= c, c <= a stand, and the others follow
        x.candidate(code(SAME, A, B, 0));
        long want = 0;
        for (int k = 0; k < 39; k++) {
            want |= k % 13 - 6 >= 0 ? 1L << k : 0;
        }
        want &= ~(1L << (13 + 6)) & ~(1L << (26 + 6));
        due("the highest bits", x.needless(), want | 1L << 39);
        x = new TruthKernel();
        x.start(1, 0, 0);
        x.candidate(code(IS, B, 0, 0));
        x.candidate(code(IS, C, 0, 0));
        x.candidate(code(AT_LEAST, A, 0, 1));
        x.candidate(code(AT_MOST, A, 0, 6));
        due("each is needed for one state, also for state 0", x.needless(), 0);
        x = new TruthKernel();
        x.start(7, 7, 6);
        x.candidate(code(AT_MOST, C, 0, 6));
        x.candidate(code(SAME, A, B, 0));
        x.candidate(code(LESS, C, B, -1));
        x.candidate(code(IS, A, 0, 7));
        due("each is needed for one state, also for state 511", x.needless(), 1 + 4);
    }

    private static void core() {
        promise = 22;
        TruthKernel x = new TruthKernel();
        x.step(TRUE, SWAP, A, B, 0);
        x.candidate(code(AT_MOST, A, 0, 3));
        due("no kernel", x.core(TRUE), NOT_POSSIBLE);
        due("no kernel and no claim", x.core(0), BAD_VALUE);
        x.candidate(code(AT_MOST, B, 0, 3));
        x.candidate(code(IS, C, 0, 0));
        x.candidate(code(AT_MOST, C, 0, 4));
        due("a claim needs both, as the step needs both", x.core(code(AT_MOST, A, 0, 3)), 1 + 2);
        due("without a <= 3, b <= 3 is no kernel, and c = 0 is left out", x.core(code(AT_MOST, C, 0, 5)), 1 + 2 + 8);
        due("only c = 0 proves it", x.core(code(AT_MOST, C, 0, 2)), 1 + 2 + 4);
        due("ALWAYS needs none, but none can be left out", x.core(TRUE), 1 + 2);
        due("not proved", x.core(code(IS, A, 0, 0)), NONE);
        for (int bad : new int[] {0, -1, 1350, LOWEST, HIGHEST}) {
            due("core(" + bad + ")", x.core(bad), BAD_VALUE);
        }
        due("nothing changes: count(2)", x.count(2), 4);
        x.candidate(code(IS, C, 0, 1));
        due("what is struck out is in no core", x.core(code(AT_MOST, C, 0, 5)), 1 + 2 + 8);
        x = new TruthKernel();
        x.step(code(AT_LEAST, A, 0, 1), PUT, B, 0, 7);
        x.candidate(code(IS, B, 0, 0));
        x.candidate(code(IS, A, 0, 0));
        due("the candidate that keeps a guard shut is needed", x.core(code(IS, B, 0, 0)), 1 + 2);
        due("the first cannot be left out alone, but the second stays", x.core(code(IS, A, 0, 0)), 2);
        due("nothing is needed", x.core(TRUE), 0);
        x = new TruthKernel();
        x.step(code(AT_LEAST, A, 0, 1), PUT, B, 0, 7);
        x.candidate(code(IS, A, 0, 0));
        x.candidate(code(IS, B, 0, 0));
        due("in ascending order the first stays", x.core(TRUE), 1);
        x = new TruthKernel();
        for (int k = 0; k < 40; k++) {
            x.candidate(k < 39 ? code(UNLIKE, k / 14, (k / 14 + 1) % 3, k % 14 < 7 ? k % 14 - 7 : k % 14 - 6) : code(IS, C, 0, 0));
        }
        due("the highest bit", x.core(code(IS, C, 0, 0)), 1L << 39);
        // only state 0 tells that the first candidate is needed, for the claim and then for the kernel
        x = new TruthKernel();
        x.start(1, 0, 0);
        x.candidate(code(AT_LEAST, A, 0, 1));
        x.candidate(code(IS, B, 0, 0));
        x.candidate(code(IS, C, 0, 0));
        due("state 0 for the claim", x.core(code(AT_LEAST, A, 0, 1)), 1);
        x.step(code(IS, A, 0, 0), PUT, B, 0, 1);
        due("state 0 for the kernel", x.core(code(IS, B, 0, 0)), 1 + 2);
        x = new TruthKernel();
        x.start(1, 0, 0);
        x.candidate(code(NOT, A, 0, 0));
        x.candidate(code(LESS, B, C, 0));
        x.candidate(code(LESS, C, B, 0));
        x.candidate(code(IS, B, 0, 0));
        // what does not hold in state 0 alone, of the states that the others allow
        due("state 0 of those that are left", x.core(code(LESS, B, A, -1)), 1 + 8);
        due("asked again", x.core(code(LESS, B, A, -1)), 1 + 8);
    }

    private static void put() {
        promise = 23;
        TruthKernel x = new TruthKernel();
        due("one character", x.put('c'), 1);
        due("eight characters", x.put(signs("a=b+1;ca")), 9);
        due("the lowest bits are the last one", x.put(signs("=0")), 11);
        due("fault()", x.fault(), NONE);
        due("carryOut()", x.carryOut(), 2);
        due("in order: ofCandidate(0, 0)", x.ofCandidate(0, 0), code(SAME, A, B, 1));
        due("in order: ofCandidate(1, 0)", x.ofCandidate(1, 0), code(IS, A, 0, 0));
        due("the lowest code", x.put(33), 1);
        due("the highest code", x.put(126), 2);
        long[] bad = {0, 32, 127, 128, 255, -1, 256, 'c' * 256L, 'c' * 65536L + 'c', 'c' * 256L + 32, 32 * 256L + 'c', 127 * 256L + 'c', 31 * 65536L + signs("cc"),
            Long.MIN_VALUE, Long.MIN_VALUE + 'c', Long.MAX_VALUE, signs("cccccccc") & ~0xff00L, signs("cccccccc") | 1L << 63, signs("cccccccc") & ~255L};
        String before = tell(x, true);
        for (long b : bad) {
            due("put(" + b + ")", x.put(b), BAD_VALUE);
        }
        dueSame("nothing is changed by an error", tell(x, true), before);
        x.wipe();
        for (int i = 1; i <= 9; i++) {
            due("put eight", x.put(signs("k;k;k;k;")), 8 * i);
        }
        due("put one more", x.put('k'), 73);
        due("eight more are too many", x.put(signs(";k;k;k;k")), TOO_MANY);
        due("wrong and too many", x.put(signs(";k;k;k;k") | 128), BAD_VALUE);
        due("seven more", x.put(signs(";k;k;ka")), 80);
        due("one more is too many", x.put('k'), TOO_MANY);
        due("wrong and too many", x.put(0), BAD_VALUE);
        due("count(11)", x.count(11), 80);
        due("the last one counts", x.fault(), 79);
        due("no change: count(12)", x.count(12), 1);
    }

    private static void wipe() {
        promise = 24;
        TruthKernel x = new TruthKernel();
        due("wipe()", x.wipe(), 0);
        x.put(signs("cdefghij"));
        x.put(signs("cd"));
        due("wipe()", x.wipe(), 10);
        due("count(11)", x.count(11), 0);
        due("fault()", x.fault(), 0);
        due("wipe()", x.wipe(), 0);
        x.put('k');
        due("nothing is left: fault()", x.fault(), NONE);
        due("no change: count(12)", x.count(12), 0);
    }

    private static void fault() {
        promise = 25;
        TruthKernel x = new TruthKernel();
        String[] right = {"k", "c*", "ca=0", "cb!7", "cc<3", "ca>2", "ca=b", "cb!c", "cc<a", "ca=b+7", "cb!c-0", "cc<a+3", "ca&b7", "cb%c0", "ca%a7", "ca=a",
            "s*:a=0", "s*:a=b", "s*:a=a+1", "s*:c=b-7", "s*:a~b", "s*:a~a", "sa=b+1:b=7", "sb&c1:c~a", "sa>7:a=a", "r0*0", "r1*1", "r999*999", "r10*99", "r0*100",
            "k;k", "c*;s*:a=1;r5*9;k", "ca=b;k", "ca=b-1;k", "r7*3;ca%b1"};
        for (String text : right) {
            x = new TruthKernel();
            write(x, text);
            due("fault of " + text, x.fault(), NONE);
            write(x, text + ";");
            due("fault of " + text + ";", x.fault(), text.length() + 1);
            write(x, text + ";;");
            due("fault of " + text + ";;", x.fault(), text.length() + 1);
            write(x, text + "$");
            due("fault of " + text + "$", x.fault(), text.length());
            due("no change: count(12)", x.count(12), 0);
        }
        Object[][] wrongs = {{"a", 0}, {";k", 0}, {"C*", 0}, {"x", 0}, {"kk", 1}, {"k k".replace(' ', '_'), 1}, {"c", 1}, {"c;", 1}, {"c=", 1}, {"cd", 1}, {"c**", 2},
            {"ca", 2}, {"ca*", 2}, {"ca~", 2}, {"ca+", 2}, {"ca=", 3}, {"ca=8", 3}, {"ca=9", 3}, {"ca=d", 3}, {"ca=-1", 3}, {"ca=11", 4}, {"ca=1+1", 4}, {"ca=b+", 5},
            {"ca=b+8", 5}, {"ca=b+a", 5}, {"ca=b+11", 6}, {"ca=b1", 4}, {"ca=bb", 4}, {"ca=b+-1", 5}, {"ca>b", 3}, {"ca>8", 3}, {"ca>", 3}, {"ca&1", 3}, {"ca&b", 4},
            {"ca&b8", 4}, {"ca&bb", 4}, {"ca&b+1", 4}, {"ca&b11", 5}, {"ca%", 3}, {"ca%b", 4}, {"ca%b;", 4}, {"s", 1}, {"s*", 2}, {"s*;", 2}, {"s*a", 2}, {"s*:", 3},
            {"s*:d", 3}, {"s*:*", 3}, {"s*:a", 4}, {"s*:a!", 4}, {"s*:a<1", 4}, {"s*:a=", 5}, {"s*:a=8", 5}, {"s*:a=1+", 6}, {"s*:a=b+", 7}, {"s*:a=b-9", 7}, {"s*:a~", 5},
            {"s*:a~1", 5}, {"s*:a~bb", 6}, {"s*:a~b+1", 6}, {"sa:a=1", 2}, {"sa=b+:a=1", 5}, {"sa=b:a=1", -6}, {"s:a=1", 1}, {"r", 1}, {"r*", 1}, {"ra", 1}, {"r-1*1", 1},
            {"r1", 2}, {"r1;", 2}, {"r1*", 3}, {"r1*;", 3}, {"r1**", 3}, {"r00*1", 2}, {"r01*1", 2}, {"r1*00", 4}, {"r1*01", 4}, {"r1000*1", 4}, {"r999", 4}, {"r9999*1", 4},
            {"r1*1000", 6}, {"r1*999", -6}, {"r1*12a", 5}, {"k;", 2}, {"k;c", 3}, {"k;x", 2}, {"c*;ca=8", 6}, {"r8*9;ra", 6}};
        for (Object[] w : wrongs) {
            write(x, (String) w[0]);
            due("fault of " + w[0], x.fault(), (Integer) w[1]);
            due("it stays: count(11)", x.count(11), ((String) w[0]).length());
        }
        x = new TruthKernel();
        due("fault of an empty text", x.fault(), 0);
        StringBuilder longest = new StringBuilder("r1*1");
        while (longest.length() < 80) {
            longest.append(";k");
        }
        write(x, longest.toString());
        due("fault of 80 characters", x.fault(), NONE);
        longest.setLength(79);
        write(x, longest.toString());
        due("fault of 79 characters", x.fault(), 79);
        due("no change: count(12)", x.count(12), 0);
    }

    private static void carryOut() {
        promise = 26;
        TruthKernel x = new TruthKernel();
        due("an empty pad: carryOut()", x.carryOut(), BAD_TEXT);
        write(x, "s*:a=a+1;ca<2;ca=b-1;cc=0;cb&c0;r0*1;k;");
        due("carryOut()", x.carryOut(), BAD_TEXT);
        due("it stays: count(11)", x.count(11), 39);
        due("nothing is carried out: count(0)", x.count(0), 0);
        due("no change: count(12)", x.count(12), 0);
        write(x, "s*:a=a+1;ca<2;ca=b-1;cc=0;cb&c0;r0*1;k");
        due("carryOut()", x.carryOut(), 7);
        due("emptied: count(11)", x.count(11), 0);
        due("one change: count(12)", x.count(12), 1);
        int[] counts = {1, 4, 2, 2, 1, 1};
        for (int what = 0; what < counts.length; what++) {
            due("count(" + what + ")", x.count(what), counts[what]);
        }
        due("undo()", x.undo(), 0);
        due("count(0)", x.count(0), 0);
        due("count(1)", x.count(1), 0);
        due("undo leaves the pad: count(11)", x.count(11), 0);
        tellsEachForm();
        tellsEachAction();
        stopsAtAnError();
    }

    private static void tellsEachForm() {
        Object[][] claims = {{"*", code(ALWAYS, 0, 0, 0)}, {"a=7", code(IS, A, 0, 7)}, {"b!0", code(NOT, B, 0, 0)}, {"c<5", code(AT_MOST, C, 0, 5)}, {"a>6", code(AT_LEAST, A, 0, 6)},
            {"b=a", code(SAME, B, A, 0)}, {"c=b+7", code(SAME, C, B, 7)}, {"a!c-7", code(UNLIKE, A, C, -7)}, {"b!c+0", code(UNLIKE, B, C, 0)}, {"c<a-1", code(LESS, C, A, -1)},
            {"a<b", code(LESS, A, B, 0)}, {"a&c7", code(SUM, A, C, 7)}, {"b&c0", code(SUM, B, C, 0)}, {"a%b0", code(EVEN, A, B, 0)}, {"b%c1", code(EVEN, B, C, 1)}};
        for (Object[] c : claims) {
            TruthKernel x = new TruthKernel();
            write(x, "c" + c[0] + ";s" + c[0] + ":a=1");
            due("carryOut() of " + c[0], x.carryOut(), 2);
            due("candidate " + c[0], x.ofCandidate(0, 0), (Integer) c[1]);
            due("guard " + c[0], x.ofStep(0, 0), (Integer) c[1]);
        }
    }

    private static void tellsEachAction() {
        Object[][] actions = {{"a=0", PUT, A, 0, 7}, {"c=7", PUT, C, 0, 14}, {"b=c", COPY, B, C, 7}, {"b=b+7", COPY, B, B, 14}, {"a=c-7", COPY, A, C, 0}, {"a=b-0", COPY, A, B, 7},
            {"a~b", SWAP, A, B, 7}, {"c~a", SWAP, C, A, 7}};
        for (Object[] a : actions) {
            TruthKernel x = new TruthKernel();
            write(x, "s*:" + a[0]);
            due("carryOut() of " + a[0], x.carryOut(), 1);
            for (int what = 1; what <= 4; what++) {
                due("ofStep(0, " + what + ") of " + a[0], x.ofStep(0, what), (Integer) a[what]);
            }
        }
        // an action tells nothing that the next one does not
        TruthKernel x = new TruthKernel();
        write(x, "s*:a=b+3;s*:a~b;s*:c=2;s*:b=c;k");
        due("carryOut()", x.carryOut(), 5);
        int[][] due = {{COPY, A, B, 10}, {SWAP, A, B, 7}, {PUT, C, 0, 9}, {COPY, B, C, 7}};
        for (int i = 0; i < due.length; i++) {
            for (int what = 1; what <= 4; what++) {
                due("ofStep(" + i + ", " + what + ")", x.ofStep(i, what), due[i][what - 1]);
            }
        }
    }

    private static void stopsAtAnError() {
        // a claim that is none, an action that is none, a run that is too long or has no length, a candidate twice
        String[] errors = {"ca=a", "cb!b+1", "ca<a", "cb&a1", "ca&a1", "cc%b0", "ca%b2", "s*:a~a", "sa=a:b=1", "sb&b2:b=1", "r1*0", "r1*100", "r0*999", "cc=0"};
        for (String error : errors) {
            TruthKernel x = new TruthKernel();
            x.candidate(code(IS, C, 0, 0));
            write(x, "ca=0;" + error + ";cb=0");
            due("fault()", x.fault(), NONE);
            due("carryOut() with " + error, x.carryOut(), 1);
            due("what stood before it was carried out", x.count(1), 2);
            due("no step came", x.count(0), 0);
            due("no run was made", x.count(4), 0);
            due("emptied: count(11)", x.count(11), 0);
            due("one change: count(12)", x.count(12), 2);
            write(x, error);
            due("carryOut() of " + error + " alone", x.carryOut(), 0);
            due("also a change: count(12)", x.count(12), 3);
            due("undo()", x.undo(), 2);
            due("undo()", x.undo(), 1);
            due("count(1)", x.count(1), 1);
        }
        TruthKernel x = new TruthKernel();
        for (int i = 0; i < 8; i++) {
            x.step(TRUE, PUT, A, 0, i);
        }
        write(x, "r999*99;s*:a=1;k");
        due("nine steps: carryOut()", x.carryOut(), 1);
        due("it is a run: count(4)", x.count(4), 1);
        due("the history of six: count(12)", x.count(12), 6);
        // the numbers of a run are read as they stand
        x = threeWays();
        TruthKernel other = threeWays();
        write(x, "r123*45;r9*10");
        due("carryOut()", x.carryOut(), 2);
        other.run(123, 45);
        other.run(9, 10);
        dueSame("as by the calls", tell(x, false), tell(other, false));
    }

    private static void undo() {
        promise = 27;
        TruthKernel x = new TruthKernel();
        due("undo()", x.undo(), NOT_POSSIBLE);
        for (int change = 0; change < 12; change++) {
            TruthKernel y = threeWays();
            y.candidate(code(AT_MOST, A, 0, 3));
            y.candidate(code(NOT, B, 0, 2));
            y.run(3, 9);
            y.save(0);
            y.candidate(code(AT_MOST, C, 0, 6));
            String before = tell(y, false);
            due("change " + change, change(y, change) >= 0 ? 1 : 0, 1);
            due("undo() of change " + change, y.undo(), 5);
            dueSame("as before change " + change, tell(y, false), before);
        }
        keepsSix();
        leavesThePadAndTheSlots();
    }

    private static int change(TruthKernel x, int change) {
        switch (change) {
            case 0: return x.start(1, 2, 3);
            case 1: return x.wrap(1);
            case 2: return x.step(TRUE, SWAP, A, B, 0);
            case 3: return x.drop(1);
            case 4: return x.candidate(code(EVEN, A, B, 0));
            case 5: return x.guess(EVEN);
            case 6: return x.run(17, 20);
            case 7: return x.strike();
            case 8: return x.settle();
            case 9:
                write(x, "ca=0;s*:a=1;r3*4;k");
                return x.carryOut();
            case 10: return x.drop(0);
            default: return x.restore(0);
        }
    }

    private static void keepsSix() {
        TruthKernel x = new TruthKernel();
        for (int i = 0; i < 8; i++) {
            x.start(i, 0, 0);
            due("count(12)", x.count(12), Math.min(6, i + 1));
        }
        due("wrong calls record nothing", x.start(8, 0, 0) + x.wrap(2) + x.drop(0), -2 - 2 - 1);
        due("count(12)", x.count(12), 6);
        for (int i = 5; i >= 0; i--) {
            due("undo()", x.undo(), i);
            due("count(6)", x.count(6), state(i + 1, 0, 0));
        }
        due("the seventh undo()", x.undo(), NOT_POSSIBLE);
        due("count(6)", x.count(6), state(1, 0, 0));
        x.start(5, 5, 5);
        due("after an undo it is recorded again: count(12)", x.count(12), 1);
        due("undo()", x.undo(), 0);
        due("count(6)", x.count(6), state(1, 0, 0));
        due("an undo is no change: undo()", x.undo(), NOT_POSSIBLE);
        bringsTheWayBack();
        // also if nothing is different then
        x.strike();
        x.settle();
        x.wrap(0);
        x.guess(IS);
        x.guess(IS);
        due("count(12)", x.count(12), 5);
        due("undo()", x.undo(), 4);
        due("count(1)", x.count(1), 3);
        due("undo()", x.undo(), 3);
        due("count(1)", x.count(1), 0);
    }

    /** The order in which states were seen, and by which run, matters for candidates that come later. */
    private static void bringsTheWayBack() {
        TruthKernel x = new TruthKernel();
        x.start(3, 3, 0);
        x.step(code(AT_LEAST, A, 0, 1), COPY, A, A, -1);
        x.run(0, 1);
        x.run(0, 3);
        x.candidate(code(IS, B, 0, 3));
        x.start(0, 5, 0);
        x.undo();
        x.undo();
        x.candidate(code(IS, A, 0, 3));
        x.candidate(code(AT_LEAST, A, 0, 2));
        int[][] due = {{code(IS, A, 0, 3), 2, state(2, 3, 0), 0}, {code(AT_LEAST, A, 0, 2), 2, state(1, 3, 0), 1}};
        for (int i = 0; i < due.length; i++) {
            for (int what = 0; what <= 3; what++) {
                due("after undo ofCandidate(" + i + ", " + what + ")", x.ofCandidate(i, what), due[i][what]);
            }
        }
        // a candidate that an undo takes away leaves its place to another one
        x = new TruthKernel();
        x.candidate(code(IS, B, 0, 0));
        x.start(0, 1, 0);
        x.undo();
        x.undo();
        due("candidate", x.candidate(code(NOT, C, 0, 1)), 0);
        x.undo();
        due("candidate", x.candidate(code(IS, B, 0, 0)), 0);
        due("ofCandidate(0, 0)", x.ofCandidate(0, 0), code(IS, B, 0, 0));
    }

    private static void leavesThePadAndTheSlots() {
        TruthKernel x = new TruthKernel();
        x.start(1, 1, 1);
        x.save(1);
        x.start(2, 2, 2);
        x.save(0);
        x.put(signs("cb=0"));
        due("undo()", x.undo(), 1);
        due("count(11)", x.count(11), 4);
        due("undo()", x.undo(), 0);
        due("restore(0)", x.restore(0), 0);
        due("count(6)", x.count(6), state(2, 2, 2));
        due("restore(1)", x.restore(1), 0);
        due("count(6)", x.count(6), state(1, 1, 1));
        due("carryOut()", x.carryOut(), 1);
        x.put('k');
        due("undo()", x.undo(), 2);
        due("the pad stays: count(11)", x.count(11), 1);
    }

    private static void save() {
        promise = 28;
        TruthKernel x = threeWays();
        x.candidate(code(AT_MOST, A, 0, 3));
        x.candidate(code(IS, A, 0, 3));
        x.candidate(TRUE);
        String before = tell(x, true);
        due("save(0)", x.save(0), 2);
        dueSame("save changes nothing else, and is no change", tell(x, true), before);
        for (int slot : new int[] {2, -1, LOWEST, HIGHEST}) {
            due("save(" + slot + ")", x.save(slot), BAD_VALUE);
        }
        due("the other slot is empty: restore(1)", x.restore(1), NOT_POSSIBLE);
        x.settle();
        due("save(1)", x.save(1), 1);
        due("overwritten: save(0)", x.save(0), 1);
        x.start(3, 3, 3);
        due("restore(0)", x.restore(0), 1);
        due("count(5)", x.count(5), 1);
        due("count(6)", x.count(6), 0);
    }

    private static void restore() {
        promise = 29;
        TruthKernel x = threeWays();
        due("restore(0)", x.restore(0), NOT_POSSIBLE);
        due("restore(1)", x.restore(1), NOT_POSSIBLE);
        for (int slot : new int[] {2, -1, LOWEST, HIGHEST}) {
            due("restore(" + slot + ")", x.restore(slot), BAD_VALUE);
        }
        due("errors are no changes: count(12)", x.count(12), 3);
        x = savedInSlotOne();
        String saved = tell(x, false);
        int standing = x.count(2);
        x.wrap(0);
        x.drop(2);
        x.start(4, 4, 4);
        x.guess(EVEN);
        x.put('k');
        String other = tell(x, false);
        due("restore(1)", x.restore(1), standing);
        dueSame("as it was saved", tell(x, false), saved);
        due("not the pad: count(11)", x.count(11), 1);
        due("not the history: count(12)", x.count(12), 6);
        due("a change: undo()", x.undo(), 5);
        dueSame("as it was before", tell(x, false), other);
        // the slot keeps it, and what comes then does not change what is in it
        x = savedInSlotOne();
        due("restore(1)", x.restore(1), standing);
        x.candidate(code(EVEN, A, B, 1));
        x.run(3, 30);
        x.strike();
        x.step(TRUE, PUT, A, 0, 0);
        x.start(5, 5, 5);
        due("restore(1) again", x.restore(1), standing);
        dueSame("as it was saved", tell(x, false), saved);
        x.undo();
        x.undo();
        x.undo();
        x.undo();
        x.undo();
        due("restore(1) after undo", x.restore(1), standing);
        dueSame("as it was saved", tell(x, false), saved);
        due("the other slot is empty: restore(0)", x.restore(0), NOT_POSSIBLE);
        due("restore(1) once more", x.restore(1), standing);
        // other candidates and another way in between
        x = new TruthKernel();
        x.start(3, 3, 0);
        x.step(code(AT_LEAST, A, 0, 1), COPY, A, A, -1);
        x.candidate(code(IS, B, 0, 3));
        x.save(0);
        x.undo();
        x.candidate(code(IS, C, 0, 0));
        x.save(1);
        due("restore(0)", x.restore(0), 1);
        due("ofCandidate(0, 0)", x.ofCandidate(0, 0), code(IS, B, 0, 3));
        due("restore(1)", x.restore(1), 1);
        due("ofCandidate(0, 0)", x.ofCandidate(0, 0), code(IS, C, 0, 0));
        x.run(0, 3);
        x.save(1);
        x.start(0, 0, 0);
        x.restore(1);
        x.candidate(code(IS, A, 0, 3));
        due("the way is restored: ofCandidate(1, 2)", x.ofCandidate(1, 2), state(2, 3, 0));
    }

    /** A machine of which nothing is as in a new one. */
    private static TruthKernel savedInSlotOne() {
        TruthKernel x = threeWays();
        x.start(1, 0, 0);
        x.wrap(1);
        x.candidate(code(AT_MOST, A, 0, 3));
        x.candidate(code(IS, B, 0, 0));
        x.candidate(code(IS, A, 0, 0));
        x.run(1, 2);
        x.candidate(TRUE);
        x.settle();
        due("save(1)", x.save(1), x.count(2));
        return x;
    }

    /** A machine of 8 steps, by which a goes from 0 to 7 and then b becomes 7, and 40 candidates that hold in state 0. */
    private static TruthKernel full() {
        TruthKernel x = new TruthKernel();
        for (int a = 0; a < 7; a++) {
            x.step(code(IS, A, 0, a), COPY, A, A, 1);
        }
        x.step(code(IS, A, 0, 7), PUT, B, 0, 7);
        for (int i = 0; i < 16; i++) {
            x.candidate(code(AT_MOST, i < 8 ? B : C, 0, i % 8));
        }
        for (int i = 0; i < 14; i++) {
            x.candidate(code(NOT, i < 7 ? C : B, 0, 1 + i % 7));
        }
        x.candidate(code(EVEN, B, C, 0));
        x.candidate(code(SUM, B, C, 0));
        for (int k = 7; k >= 0; k--) {
            x.candidate(code(AT_MOST, A, 0, k));
        }
        return x;
    }

    private static void dueFate(TruthKernel x, int candidate, int... fate) {
        for (int what = 1; what <= 4; what++) {
            due("full: ofCandidate(" + candidate + ", " + what + ")", x.ofCandidate(candidate, what), fate[what - 1]);
        }
    }

    /** All rows are full, so that a step too far in one of them would be seen. */
    private static void eightStepsAndFortyCandidates() {
        TruthKernel x = full();
        promise = 16;
        due("full: count(0)", x.count(0), 8);
        due("full: count(2)", x.count(2), 40);
        due("full: count(8)", x.count(8), 1);
        promise = 8;
        due("full: run(0, 3)", x.run(0, 3), 3);
        dueFate(x, 39, 2, state(1, 0, 0), 0, NONE);
        dueFate(x, 37, 2, state(3, 0, 0), 0, NONE);
        promise = 9;
        due("full: strike()", x.strike(), 1);
        dueFate(x, 36, 3, state(3, 0, 0), 3, 1);
        promise = 10;
        due("full: settle()", x.settle(), 4);
        dueFate(x, 31, 3, state(7, 0, 0), 7, 5);
        promise = 16;
        int[] counts = {8, 40, 23, 4, 1, 5, 0, 0, 16, 9, 1, 0, 6};
        for (int what = 0; what < counts.length; what++) {
            due("full: count(" + what + ")", x.count(what), counts[what]);
        }
        promise = 21;
        long standing = 1L << 7 | 0xff00L | 0x7fL << 16 | 0x3fL << 23 | 1L << 32;
        due("full: needless()", x.needless(), standing & ~(0x3fL << 23));
        promise = 22;
        due("full: core of ALWAYS", x.core(TRUE), 0);
        due("full: core of c = 0", x.core(code(IS, C, 0, 0)), 0x7fL << 16);
        promise = 2;
        due("full: start(1, 7, 1)", x.start(1, 7, 1), 0);
        due("full: count(2)", x.count(2), 28);
        dueFate(x, 39, 1, state(1, 7, 1), NONE, NONE);
        dueFate(x, 30, 0, NONE, NONE, NONE);
        promise = 5;
        due("full: drop(0)", x.drop(0), 7);
        due("full: ofStep(6, 2)", x.ofStep(6, 2), B);
        due("full: ofStep(7, 2)", x.ofStep(7, 2), NO_SUCH);
        promise = 27;
        due("full: undo()", x.undo(), 5);
        due("full: ofStep(7, 2)", x.ofStep(7, 2), B);
        // a run that sees all the states there are
        x = new TruthKernel();
        x.wrap(1);
        for (int i = 0; i < 3; i++) {
            x.step(TRUE, COPY, i, i, 1);
            x.step(TRUE, COPY, i, i, -1);
        }
        int seen = 1;
        for (int seed = 0; seed < 150; seed++) {
            seen += x.run(7919 * seed, 99);
        }
        promise = 8;
        due("all seen: count(3)", x.count(3), seen);
        due("all seen: count(3)", x.count(3), 512);
        due("all seen: run(1, 99)", x.run(1, 99), 0);
        due("all seen: count(9)", x.count(9), 512);
    }
}
