/** The boundaries of steps, and of promises 1 to 5, 13 and 14: a test for each sentence that names one. */
public final class StepsBoundaryTest extends Boundary {
    /** Numbers and what is added to them, with what becomes of them if WRAP is 1 and if it is 0. */
    private static final int[][] SUMS = {
        {7, 0, 7, 7}, {6, 1, 7, 7}, {7, 1, 0, NONE}, {0, 7, 7, 7}, {1, 7, 0, NONE}, {7, 7, 6, NONE}, {0, 0, 0, 0},
        {1, -1, 0, 0}, {0, -1, 7, NONE}, {7, -7, 0, 0}, {6, -7, 7, NONE}, {0, -7, 1, NONE}, {3, 4, 7, 7}, {4, 4, 0, NONE}, {4, -4, 0, 0}, {3, -4, 7, NONE}};

    public static void main(String[] args) {
        aNewMachineHasNothing();
        aNewMachineAnswersEachCall();
        upToEightSteps();
        stepsBehindADroppedOneMoveUp();
        putIsZeroToSeven();
        copyIsMinusSevenToSeven();
        copyMayBeOfItself();
        swapIsOfTwoNumbers();
        wrapIsZeroAtFirst();
        wrapOneGoesRound();
        wrapZeroStopsTheStep();
        guardsAreAskedFirst();
        everyStepInEveryState();
        setAnewToWhatItIs();
        anotherStartBeginsAnew();
        anotherWrapBeginsAnew();
        aStepThatComesBeginsAnew();
        aStepThatIsDroppedBeginsAnew();
        aStepOfATextBeginsAnew();
        runsAndRoundsAreCountedAnew();
        nothingElseBeginsAnew();
        startIsZeroToSeven();
        startAnswersThePreviousOne();
        wrapIsZeroOrOne();
        stepAnswersItsNumber();
        stepRefusesAGuardThatIsNone();
        stepRefusesAnActionThatIsNone();
        stepRefusesTheNinth();
        stepNamesBadValueFirst();
        dropAnswersHowManyThereAre();
        dropRefusesWhatIsNotThere();
        ofStepTellsTheStep();
        ofStepCountsStates();
        ofStepCountsAllowedStates();
        ofStepRefuses();
        leadsRefuses();
        leadsAnswersNoneAtLast();
        end();
    }

    private static void aNewMachineHasNothing() {
        sentence("TruthKernel(): Creates a machine without steps and candidates, with the start state 0.");
        Asked x = new Asked();
        int[] counts = {0, 0, 0, 1, 0, 0, 0, 0, 512, 1, 1, 0, 0};
        for (int what = 0; what < counts.length; what++) {
            due(x.count(what), counts[what]);
        }
    }

    private static void aNewMachineAnswersEachCall() {
        sentence("A machine without steps and candidates - what each call answers that finds nothing there yet.");
        Asked x = new Asked();
        due(x.drop(0), NO_SUCH);
        due(x.ofStep(0, 0), NO_SUCH);
        due(x.leads(0, 0), NO_SUCH);
        due(x.ofCandidate(0, 0), NO_SUCH);
        due(x.undo(), NOT_POSSIBLE);
        due(x.restore(0), NOT_POSSIBLE);
        due(x.restore(1), NOT_POSSIBLE);
        due(x.fault(), 0);
        due(x.carryOut(), BAD_TEXT);
        due(x.wipe(), 0);
        due(x.proves(TRUE), 1);
        due(x.proves(code(LESS, A, B, 6)), 0);
        due(x.witness(TRUE), NONE);
        due(x.witness(code(LESS, A, B, 6)), 448);
        due(x.isTrue(code(IS, A, 0, 0)), 1);
        due(x.isTrue(code(IS, A, 0, 1)), 0);
        due(x.needless(), 0);
        due(x.core(TRUE), 0);
        due(x.core(code(LESS, A, B, 6)), NONE);
        due(x.ofState(0), 7);
        due(x.ofState(511), 4);
        due(x.count(12), 0);
        due(x.strike(), 0);
        due(x.settle(), 0);
        due(x.run(0, 99), 0);
        due(x.save(1), 0);
        due(x.start(0, 0, 0), 0);
        due(x.wrap(0), 0);
    }

    private static void upToEightSteps() {
        sentence("The machine has .. up to 8 steps, numbered in the order in which they came.");
        Asked x = new Asked();
        for (int i = 0; i < 8; i++) {
            due(x.step(TRUE, PUT, A, 0, i), i);
            due(x.count(0), i + 1);
        }
        due(x.step(TRUE, PUT, B, 0, 0), TOO_MANY);
        due(x.count(0), 8);
        for (int i = 0; i < 8; i++) {
            due(x.leads(i, 0), 64 * i);
        }
        due(x.leads(8, 0), NO_SUCH);
        x.drop(3);
        due(x.step(TRUE, PUT, B, 0, 5), 7);
        due(x.leads(7, 0), 40);
        due(x.step(TRUE, PUT, B, 0, 0), TOO_MANY);
    }

    private static void stepsBehindADroppedOneMoveUp() {
        sentence("(when one is dropped, those behind it move up)");
        for (int dropped = 0; dropped < 8; dropped++) {
            Asked x = new Asked();
            for (int i = 0; i < 8; i++) {
                // of each step all is unlike what it is of the others
                x.step(code(IS, i % 3, 0, i), i % 2, (i + 1) % 3, i % 2 == 0 ? 0 : i / 2 % 3, i);
            }
            due(x.drop(dropped), 7);
            for (int place = 0; place < 7; place++) {
                int i = place < dropped ? place : place + 1;
                int[] is = {code(IS, i % 3, 0, i), i % 2, (i + 1) % 3, i % 2 == 0 ? 0 : i / 2 % 3, i + 7};
                for (int what = 0; what < 5; what++) {
                    due(x.ofStep(place, what), is[what]);
                }
            }
            due(x.ofStep(7, 0), NO_SUCH);
        }
    }

    private static void putIsZeroToSeven() {
        sentence("PUT (0): x becomes k (0 to 7) .. y: 0 to 2 (0 for PUT)");
        for (int v = A; v <= C; v++) {
            Asked x = new Asked();
            due(x.step(TRUE, PUT, v, 0, -1), BAD_VALUE);
            due(x.step(TRUE, PUT, v, 0, 0), 0);
            due(x.step(TRUE, PUT, v, 0, 7), 1);
            due(x.step(TRUE, PUT, v, 0, 8), BAD_VALUE);
            due(x.step(TRUE, PUT, v, -1, 0), BAD_VALUE);
            due(x.step(TRUE, PUT, v, 1, 0), BAD_VALUE);
            due(x.step(TRUE, PUT, v, 2, 0), BAD_VALUE);
            due(x.step(TRUE, PUT, v, 3, 0), BAD_VALUE);
            due(numberOf(x.leads(0, 511), v), 0);
            due(numberOf(x.leads(1, 0), v), 7);
        }
    }

    private static void copyIsMinusSevenToSeven() {
        sentence("COPY (1): x becomes y + k (k is -7 to 7 ..)");
        for (int v = A; v <= C; v++) {
            for (int w = A; w <= C; w++) {
                Asked x = new Asked();
                due(x.step(TRUE, COPY, v, w, -8), BAD_VALUE);
                due(x.step(TRUE, COPY, v, w, -7), 0);
                due(x.step(TRUE, COPY, v, w, 7), 1);
                due(x.step(TRUE, COPY, v, w, 8), BAD_VALUE);
                due(x.ofStep(0, 4), 0);
                due(x.ofStep(1, 4), 14);
            }
        }
    }

    private static void copyMayBeOfItself() {
        sentence("COPY (1): .. (.. y may be x)");
        Asked x = new Asked();
        for (int v = A; v <= C; v++) {
            due(x.step(TRUE, COPY, v, v, 1), v);
            due(x.leads(v, state(1, 2, 3)), state(1, 2, 3) + (v == A ? 64 : v == B ? 8 : 1));
        }
        due(x.step(TRUE, COPY, B, B, 0), 3);
        due(x.leads(3, state(1, 2, 3)), state(1, 2, 3));
    }

    private static void swapIsOfTwoNumbers() {
        sentence("SWAP (2): x and y are exchanged (y is not x; k is 0).");
        for (int v = A; v <= C; v++) {
            Asked x = new Asked();
            due(x.step(TRUE, SWAP, v, v, 0), BAD_VALUE);
            due(x.step(TRUE, SWAP, v, (v + 1) % 3, -1), BAD_VALUE);
            due(x.step(TRUE, SWAP, v, (v + 1) % 3, 1), BAD_VALUE);
            due(x.step(TRUE, SWAP, v, (v + 1) % 3, 0), 0);
            due(x.step(TRUE, SWAP, v, (v + 2) % 3, 0), 1);
            int[] next = {state(2, 1, 3), state(1, 3, 2), state(3, 2, 1)};
            due(x.leads(0, state(1, 2, 3)), next[v]);
            due(x.leads(1, state(1, 2, 3)), next[(v + 2) % 3]);
            due(x.leads(0, 511), 511);
            due(x.leads(0, 0), 0);
        }
    }

    private static void wrapIsZeroAtFirst() {
        sentence("If WRAP (0 or 1; 0 at first) ..");
        Asked x = counter();
        due(x.count(7), 0);
        due(x.leads(0, 448), NONE);
        due(x.wrap(0), 0);
        due(x.leads(0, 448), NONE);
        due(x.wrap(1), 0);
        due(x.leads(0, 448), 0);
    }

    /** Asks for the sums, of each number for each; column 2 of a sum is what becomes of it with WRAP 1, column 3 with WRAP 0. */
    private static void dueSums(int wrap, int column) {
        for (int v = A; v <= C; v++) {
            for (int w = A; w <= C; w++) {
                for (int[] sum : SUMS) {
                    Asked x = new Asked();
                    x.step(TRUE, COPY, v, w, sum[1]);
                    x.wrap(wrap);
                    int[] n = {5, 5, 5};
                    n[w] = sum[0];
                    int from = state(n[A], n[B], n[C]);
                    n[v] = sum[column];
                    due(x.leads(0, from), sum[column] == NONE ? NONE : state(n[A], n[B], n[C]));
                }
            }
        }
    }

    private static void wrapOneGoesRound() {
        sentence("If WRAP is 1, a number that would be above 7 or below 0 becomes 8 less, or 8 more.");
        dueSums(1, 2);
    }

    private static void wrapZeroStopsTheStep() {
        sentence("if it is 0, a step by which there would be such a number cannot be made.");
        dueSums(0, 3);
    }

    private static void guardsAreAskedFirst() {
        sentence("Otherwise a step can be made in each state in which its guard holds.");
        for (int wrap = 0; wrap <= 1; wrap++) {
            Asked x = new Asked();
            x.step(code(AT_MOST, B, 0, 3), PUT, B, 0, 7);
            x.step(code(AT_LEAST, B, 0, 4), COPY, A, B, 0);
            x.step(code(SAME, A, C, 7), SWAP, A, C, 0);
            x.step(code(NOT, A, 0, 7), COPY, A, A, 1);
            x.wrap(wrap);
            due(x.leads(0, state(0, 3, 0)), state(0, 7, 0));
            due(x.leads(0, state(0, 4, 0)), NONE);
            due(x.leads(1, state(0, 4, 0)), state(4, 4, 0));
            due(x.leads(1, state(0, 3, 0)), NONE);
            due(x.leads(2, state(7, 1, 0)), state(0, 1, 7));
            due(x.leads(2, state(7, 1, 1)), NONE);
            due(x.leads(2, state(0, 1, 7)), NONE);
            due(x.leads(3, state(6, 0, 0)), state(7, 0, 0));
            // the guard forbids it, and WRAP does not matter for that
            due(x.leads(3, state(7, 0, 0)), NONE);
        }
    }

    /** Where a step leads as the document tells it, for a guard that holds. */
    private static int target(int how, int x, int y, int k, int wrap, int from) {
        int[] n = {numberOf(from, A), numberOf(from, B), numberOf(from, C)};
        int was = n[x];
        n[x] = how == PUT ? k : n[y] + k;
        if (how == SWAP) {
            n[y] = was;
        }
        if ((n[x] > 7 || n[x] < 0) && wrap == 0) {
            return NONE;
        }
        n[x] += n[x] > 7 ? -8 : n[x] < 0 ? 8 : 0;
        return state(n[A], n[B], n[C]);
    }

    private static void everyStepInEveryState() {
        sentence("PUT: x becomes k; COPY: x becomes y + k; SWAP: x and y are exchanged - in every state, with WRAP 0 and with WRAP 1.");
        int actions = 0;
        for (int how = PUT; how <= SWAP; how++) {
            for (int v = A; v <= C; v++) {
                for (int w = A; w <= C; w++) {
                    for (int k = -7; k <= 7; k++) {
                        if (how == PUT ? w == 0 && k >= 0 : how == COPY || w != v && k == 0) {
                            everyState(how, v, w, k);
                            actions++;
                        }
                    }
                }
            }
        }
        due("the actions that there are", actions, 24 + 135 + 6);
    }

    private static void everyState(int how, int v, int w, int k) {
        for (int half = 0; half < 4; half++) {
            Asked x = new Asked();
            due(x.step(TRUE, how, v, w, k), 0);
            x.wrap(half / 2);
            for (int s = 256 * (half % 2); s < 256 * (half % 2) + 256; s++) {
                due(x.leads(0, s), target(how, v, w, k, half / 2, s));
            }
        }
    }

    /** The step a = a + 1, and a candidate for each way in which one can be, after a run and a round. */
    private static Asked used() {
        Asked x = counter();
        x.candidate(code(AT_MOST, A, 0, 1));
        x.candidate(code(IS, A, 0, 3));
        x.candidate(code(AT_MOST, A, 0, 6));
        x.candidate(code(IS, B, 0, 0));
        x.run(0, 2);
        x.settle();
        return x;
    }

    private static void dueUsed(Asked x, int seen, int runs) {
        due(x.count(3), seen);
        due(x.count(4), runs);
        due(x.count(5), 1);
        dueFate(x, 0, BY_RUN, state(2, 0, 0), 0, NONE);
        dueFate(x, 1, BY_START, 0, NONE, NONE);
        dueFate(x, 2, BY_STEP, state(6, 0, 0), 0, 1);
        dueStanding(x, 3);
        due(x.ofState(state(1, 0, 0)) & 1, 1);
    }

    /** Begun anew in the start state that is told: what stands of the four candidates of used() then. */
    private static void dueAnew(Asked x, int start, boolean... stands) {
        due(x.count(3), 1);
        due(x.count(4), 0);
        due(x.count(5), 0);
        due(x.count(6), start);
        due(x.count(1), 4);
        for (int i = 0; i < 4; i++) {
            if (stands[i]) {
                dueStanding(x, i);
            } else {
                dueFate(x, i, BY_START, start, NONE, NONE);
            }
        }
        for (int a = 0; a <= 2; a++) {
            due(x.ofState(state(a, 0, 0)) & 1, asNumber(state(a, 0, 0) == start));
        }
        due(x.ofState(start) & 3, 3);
    }

    private static void setAnewToWhatItIs() {
        sentence("When the start state, a step or WRAP changes (or is set anew to what it is), it is begun anew.");
        Asked x = used();
        dueUsed(x, 3, 1);
        due(x.start(0, 0, 0), 0);
        dueAnew(x, 0, true, false, true, true);
        x = used();
        due(x.wrap(0), 0);
        dueAnew(x, 0, true, false, true, true);
    }

    private static void anotherStartBeginsAnew() {
        sentence("When the start state changes: no state is seen but the start state, there was no run, and all candidates stand that hold in the start state.");
        Asked x = used();
        x.start(3, 1, 0);
        dueAnew(x, state(3, 1, 0), false, true, true, false);
        x = used();
        x.start(2, 0, 0);
        dueAnew(x, state(2, 0, 0), false, false, true, true);
        x = used();
        x.start(7, 7, 7);
        dueAnew(x, 511, false, false, false, false);
    }

    private static void anotherWrapBeginsAnew() {
        sentence("When WRAP changes, it is begun anew.");
        Asked x = used();
        due(x.wrap(1), 0);
        dueAnew(x, 0, true, false, true, true);
        x.run(0, 3);
        x.settle();
        due(x.wrap(0), 1);
        dueAnew(x, 0, true, false, true, true);
    }

    private static void aStepThatComesBeginsAnew() {
        sentence("When a step changes, it is begun anew - a step that comes, the first one and the eighth one, too.");
        Asked x = used();
        due(x.step(TRUE, PUT, C, 0, 1), 1);
        dueAnew(x, 0, true, false, true, true);
        x = new Asked();
        x.run(0, 1);
        due(x.step(TRUE, PUT, C, 0, 1), 0);
        due(x.count(4), 0);
        x = new Asked();
        for (int i = 0; i < 7; i++) {
            x.step(TRUE, PUT, C, 0, 1);
        }
        due(x.run(0, 1), 1);
        due(x.step(TRUE, PUT, C, 0, 1), 7);
        due(x.count(3), 1);
        due(x.run(0, 1), 1);
        due(x.step(TRUE, PUT, C, 0, 1), TOO_MANY);
        due(x.count(3), 2);
        due(x.count(4), 1);
    }

    private static void aStepThatIsDroppedBeginsAnew() {
        sentence("When a step changes, it is begun anew - a step that is dropped, the last one that there is, too.");
        Asked x = used();
        due(x.drop(0), 0);
        dueAnew(x, 0, true, false, true, true);
        x.run(0, 1);
        due(x.drop(0), NO_SUCH);
        due(x.count(4), 1);
    }

    private static void aStepOfATextBeginsAnew() {
        sentence("\"s\": step() with this guard - and it is begun anew.");
        Asked x = used();
        due(carryOut(x, "sa=0:c=1"), 1);
        dueAnew(x, 0, true, false, true, true);
    }

    private static void runsAndRoundsAreCountedAnew() {
        sentence("Runs and rounds .. counted since it was begun anew.");
        Asked x = used();
        x.start(0, 0, 0);
        due(x.run(5, 1), 1);
        due(x.run(5, 2), 1);
        dueFate(x, 0, BY_RUN, state(2, 0, 0), 1, NONE);
        due(x.settle(), 1);
        dueFate(x, 2, BY_STEP, state(6, 0, 0), 0, 1);
        due(x.count(4), 2);
        due(x.count(5), 1);
    }

    private static void nothingElseBeginsAnew() {
        sentence("When the start state, a step or WRAP changes .., it is begun anew - by nothing else, and not by a refused call.");
        Asked x = used();
        x.start(8, 0, 0);
        x.start(0, -1, 0);
        x.wrap(2);
        x.wrap(-1);
        x.step(0, PUT, A, 0, 0);
        x.step(TRUE, PUT, A, 0, 8);
        x.drop(1);
        x.drop(-1);
        dueUsed(x, 3, 1);
        x.candidate(TRUE);
        x.guess(EVEN);
        x.strike();
        x.settle();
        x.save(0);
        x.wipe();
        x.restore(0);
        carryOut(x, "cb<7;k");
        dueUsed(x, 3, 1);
        x.run(0, 1);
        dueUsed(x, 3, 2);
    }

    private static void startIsZeroToSeven() {
        sentence("start: a: 0 to 7; so are b and c .. BAD_VALUE if an argument is out of range.");
        Asked x = new Asked();
        for (int bad : new int[] {LOWEST, -1, 8, HIGHEST}) {
            for (int good : new int[] {0, 7}) {
                due(x.start(bad, good, good), BAD_VALUE);
                due(x.start(good, bad, good), BAD_VALUE);
                due(x.start(good, good, bad), BAD_VALUE);
            }
            due(x.start(bad, bad, bad), BAD_VALUE);
        }
        due(x.count(6), 0);
        due(x.count(12), 0);
        due(x.start(0, 0, 0), 0);
        due(x.start(7, 0, 0), 0);
        due(x.start(0, 7, 0), 448);
        due(x.start(0, 0, 7), 56);
        due(x.start(7, 7, 7), 7);
    }

    private static void startAnswersThePreviousOne() {
        sentence("start: Returns the previous start state.");
        Asked x = new Asked();
        due(x.start(3, 2, 1), 0);
        due(x.start(8, 2, 1), BAD_VALUE);
        due(x.start(3, 2, 1), state(3, 2, 1));
        due(x.start(0, 0, 0), state(3, 2, 1));
        due(x.start(7, 7, 7), 0);
        due(x.start(7, 7, 7), 511);
    }

    private static void wrapIsZeroOrOne() {
        sentence("wrap: Returns the previous value; BAD_VALUE if on is neither 0 nor 1.");
        Asked x = new Asked();
        for (int bad : new int[] {LOWEST, -1, 2, HIGHEST}) {
            due(x.wrap(bad), BAD_VALUE);
        }
        due(x.count(12), 0);
        due(x.wrap(0), 0);
        due(x.wrap(1), 0);
        due(x.wrap(2), BAD_VALUE);
        due(x.wrap(1), 1);
        due(x.wrap(0), 1);
        due(x.wrap(0), 0);
    }

    private static void stepAnswersItsNumber() {
        sentence("step: Returns its number - the same step may come again.");
        Asked x = new Asked();
        due(x.step(TRUE, SWAP, A, C, 0), 0);
        due(x.step(TRUE, SWAP, A, C, 0), 1);
        due(x.drop(0), 1);
        due(x.step(TRUE, SWAP, A, C, 0), 1);
    }

    private static void stepRefusesAGuardThatIsNone() {
        sentence("step: guard: the code of a claim .. BAD_VALUE if guard is no code of a claim.");
        Asked x = new Asked();
        for (int bad : new int[] {LOWEST, -1, 0, 6, 8, 141, 150, 1296, 1299, 1349, 1350, HIGHEST}) {
            due(x.step(bad, PUT, A, 0, 0), BAD_VALUE);
        }
        due(x.count(0), 0);
        due(x.step(7, PUT, A, 0, 0), 0);
        due(x.step(142, PUT, A, 0, 0), 1);
        due(x.step(149, PUT, A, 0, 0), 2);
        due(x.step(1297, PUT, A, 0, 0), 3);
        due(x.step(1298, PUT, A, 0, 0), 4);
    }

    private static void stepRefusesAnActionThatIsNone() {
        sentence("step: how: PUT to SWAP; x: 0 to 2; y: 0 to 2 .. BAD_VALUE if .. this is no action as told.");
        Asked x = new Asked();
        for (int bad : new int[] {LOWEST, -1, 3, HIGHEST}) {
            due(x.step(TRUE, bad, A, 0, 0), BAD_VALUE);
            due(x.step(TRUE, bad, A, B, 0), BAD_VALUE);
            for (int how = PUT; how <= SWAP; how++) {
                due(x.step(TRUE, how, bad, 0, 0), BAD_VALUE);
                due(x.step(TRUE, how, A, bad, 0), BAD_VALUE);
            }
        }
        for (int far : new int[] {LOWEST, HIGHEST}) {
            due(x.step(TRUE, PUT, A, 0, far), BAD_VALUE);
            due(x.step(TRUE, COPY, A, A, far), BAD_VALUE);
            due(x.step(TRUE, SWAP, A, B, far), BAD_VALUE);
        }
        due(x.count(0), 0);
        due(x.count(12), 0);
        due(x.step(TRUE, PUT, C, 0, 0), 0);
        due(x.step(TRUE, COPY, C, C, 0), 1);
        due(x.step(TRUE, SWAP, C, A, 0), 2);
        due(x.step(TRUE, SWAP, A, C, 0), 3);
    }

    private static Asked withEightSteps() {
        Asked x = new Asked();
        for (int i = 0; i < 8; i++) {
            x.step(TRUE, PUT, A, 0, i);
        }
        return x;
    }

    private static void stepRefusesTheNinth() {
        sentence("step: TOO_MANY if there are 8 steps.");
        Asked x = withEightSteps();
        due(x.step(TRUE, PUT, A, 0, 0), TOO_MANY);
        due(x.step(TRUE, COPY, A, B, 0), TOO_MANY);
        due(x.step(TRUE, SWAP, A, B, 0), TOO_MANY);
        due(x.count(0), 8);
        due(x.undo(), 5);
        due(x.step(TRUE, PUT, A, 0, 0), 7);
        due(x.step(TRUE, PUT, A, 0, 0), TOO_MANY);
    }

    private static void stepNamesBadValueFirst() {
        sentence("step: BAD_VALUE ..; TOO_MANY if there are 8 steps - in this order.");
        Asked x = withEightSteps();
        due(x.step(0, PUT, A, 0, 0), BAD_VALUE);
        due(x.step(TRUE, 3, A, 0, 0), BAD_VALUE);
        due(x.step(TRUE, PUT, 3, 0, 0), BAD_VALUE);
        due(x.step(TRUE, PUT, A, 1, 0), BAD_VALUE);
        due(x.step(TRUE, PUT, A, 0, 8), BAD_VALUE);
        due(x.step(TRUE, COPY, A, A, -8), BAD_VALUE);
        due(x.step(TRUE, SWAP, A, A, 0), BAD_VALUE);
    }

    private static void dropAnswersHowManyThereAre() {
        sentence("drop: Returns how many steps there are then.");
        Asked x = withEightSteps();
        for (int left = 7; left >= 0; left--) {
            due(x.drop(left % 2 == 0 ? 0 : left), left);
        }
        due(x.count(0), 0);
    }

    private static void dropRefusesWhatIsNotThere() {
        sentence("drop: NO_SUCH if there is no such step.");
        Asked x = new Asked();
        due(x.drop(0), NO_SUCH);
        due(x.drop(-1), NO_SUCH);
        x = counter();
        due(x.drop(1), NO_SUCH);
        due(x.drop(0), 0);
        due(x.drop(0), NO_SUCH);
        due(x.count(12), 2);
        x = withEightSteps();
        for (int bad : new int[] {LOWEST, -1, 8, 9, HIGHEST}) {
            due(x.drop(bad), NO_SUCH);
        }
        due(x.drop(7), 7);
        due(x.drop(7), NO_SUCH);
    }

    private static void ofStepTellsTheStep() {
        sentence("ofStep: what: 0 the code of its guard, 1 how, 2 x, 3 y, 4 k and 7");
        Asked x = new Asked();
        int[][] steps = {{7, PUT, A, 0, 0}, {1298, PUT, C, 0, 7}, {code(SAME, A, B, -7), COPY, B, C, -7}, {142, COPY, C, B, 7}, {7, SWAP, A, C, 0}, {7, SWAP, C, A, 0}};
        for (int i = 0; i < steps.length; i++) {
            int[] s = steps[i];
            due(x.step(s[0], s[1], s[2], s[3], s[4]), i);
            for (int what = 0; what <= 3; what++) {
                due(x.ofStep(i, what), s[what]);
            }
            due(x.ofStep(i, 4), s[4] + 7);
        }
    }

    private static void ofStepCountsStates() {
        sentence("ofStep: 5 in how many states it can be made");
        Asked x = new Asked();
        x.step(TRUE, PUT, A, 0, 7);
        x.step(TRUE, COPY, A, A, 7);
        x.step(TRUE, COPY, A, A, -7);
        x.step(code(IS, A, 0, 7), COPY, A, A, 1);
        x.step(code(IS, A, 0, 0), COPY, A, A, -1);
        x.step(code(SAME, A, B, 7), SWAP, A, B, 0);
        int[][] due = {{512, 64, 64, 0, 0, 8}, {512, 512, 512, 64, 64, 8}};
        for (int wrap = 0; wrap <= 1; wrap++) {
            x.wrap(wrap);
            for (int i = 0; i < 6; i++) {
                due(x.ofStep(i, 5), due[wrap][i]);
            }
        }
    }

    private static void ofStepCountsAllowedStates() {
        sentence("ofStep: 6 in how many allowed ones");
        Asked x = new Asked();
        x.step(TRUE, PUT, A, 0, 7);
        x.step(code(IS, A, 0, 0), COPY, B, B, 1);
        x.step(code(AT_LEAST, A, 0, 4), SWAP, B, C, 0);
        int[] none = {512, 56, 256};
        for (int i = 0; i < 3; i++) {
            due(x.ofStep(i, 6), none[i]);
        }
        x.candidate(code(IS, A, 0, 7));
        x.candidate(code(AT_MOST, A, 0, 3));
        x.candidate(code(AT_LEAST, B, 0, 0));
        x.candidate(code(LESS, B, C, 0));
        int[] some = {4 * 36, 35, 0};
        for (int i = 0; i < 3; i++) {
            due(x.ofStep(i, 6), some[i]);
            due(x.ofStep(i, 5), none[i]);
        }
        x.candidate(code(IS, A, 0, 0));
        x.candidate(code(IS, B, 0, 0));
        x.candidate(code(IS, C, 0, 0));
        int[] one = {1, 1, 0};
        for (int i = 0; i < 3; i++) {
            due(x.ofStep(i, 6), one[i]);
        }
    }

    private static void ofStepRefuses() {
        sentence("ofStep: NO_SUCH if there is no such step; BAD_VALUE if what is out of range.");
        Asked x = new Asked();
        due(x.ofStep(0, 0), NO_SUCH);
        due(x.ofStep(0, -1), NO_SUCH);
        x = withEightSteps();
        for (int bad : new int[] {LOWEST, -1, 8, HIGHEST}) {
            for (int what : new int[] {LOWEST, -1, 0, 5, 6, 7, HIGHEST}) {
                due(x.ofStep(bad, what), NO_SUCH);
            }
        }
        for (int what : new int[] {LOWEST, -1, 7, HIGHEST}) {
            due(x.ofStep(0, what), BAD_VALUE);
            due(x.ofStep(7, what), BAD_VALUE);
        }
        due(x.ofStep(7, 0), TRUE);
        due(x.ofStep(7, 6), 512);
        x.drop(0);
        due(x.ofStep(7, 0), NO_SUCH);
        due(x.ofStep(6, 4), 14);
    }

    private static void leadsRefuses() {
        sentence("leads: NO_SUCH if there is no such step; BAD_VALUE if state is out of range.");
        Asked x = new Asked();
        due(x.leads(0, 0), NO_SUCH);
        due(x.leads(0, 512), NO_SUCH);
        x = withEightSteps();
        for (int bad : new int[] {LOWEST, -1, 8, HIGHEST}) {
            for (int state : new int[] {LOWEST, -1, 0, 511, 512, HIGHEST}) {
                due(x.leads(bad, state), NO_SUCH);
            }
        }
        for (int state : new int[] {LOWEST, -1, 512, HIGHEST}) {
            due(x.leads(0, state), BAD_VALUE);
            due(x.leads(7, state), BAD_VALUE);
        }
        due(x.leads(7, 0), 448);
        due(x.leads(7, 511), 511);
        due(x.leads(0, 511), 63);
    }

    private static void leadsAnswersNoneAtLast() {
        sentence("leads: NONE if the step cannot be made in it; NONE .. is returned only if no error applies.");
        Asked x = new Asked();
        x.step(code(IS, A, 0, 7), COPY, A, A, 1);
        due(x.leads(0, 0), NONE);
        due(x.leads(0, 511), NONE);
        due(x.leads(0, 512), BAD_VALUE);
        due(x.leads(0, -1), BAD_VALUE);
        due(x.leads(1, 0), NO_SUCH);
        x.wrap(1);
        due(x.leads(0, 511), 63);
        due(x.leads(0, 447), NONE);
        due(x.leads(0, 448), 0);
    }
}
