/** The boundaries of promises 16 to 22, of numbers and of sets: a test for each sentence that names one. */
public final class AnswersBoundaryTest extends Boundary {
    private static final int[] NO_CODES = {LOWEST, -8, -1, 0, 6, 8, 141, 150, 1296, 1299, 1349, 1350, HIGHEST};

    public static void main(String[] args) {
        countRefuses();
        countOfStepsAndCandidates();
        countOfThoseThatStand();
        countOfSeenStates();
        countOfRuns();
        countOfRounds();
        countOfStartAndWrap();
        countOfAllowedStates();
        countOfReachedStates();
        countOfTheKernel();
        countOfThePad();
        countOfTheHistory();
        ofStateRefuses();
        ofStateTellsEach();
        provesOnlyOfAKernel();
        provesNamesBadValueFirst();
        provesInAllAllowedStates();
        witnessIsTheLowest();
        witnessIsTheHighestAlone();
        witnessAnswersNone();
        witnessNeedsNoKernel();
        witnessRefuses();
        isTrueInAllReachedStates();
        isTrueOfTheStartAlone();
        isTrueOfAllStates();
        isTrueRefuses();
        needlessOfNothing();
        needlessOfOne();
        needlessOfAlikeOnes();
        needlessOfThoseThatStand();
        needlessOfForty();
        neededInOneState();
        coreOfNothing();
        coreInAscendingOrder();
        coreIsAKernelAsWell();
        coreProvesTheClaim();
        coreOfThoseThatStand();
        neededForOneState();
        coreOfForty();
        coreNamesItsErrorsInOrder();
        everythingIsNumberedFromZero();
        setsAreBitMasks();
        questionsChangeNothing();
        end();
    }

    private static void countRefuses() {
        sentence("count: BAD_VALUE if what is out of range.");
        Asked x = new Asked();
        for (int bad : new int[] {LOWEST, -1, 13, HIGHEST}) {
            due(x.count(bad), BAD_VALUE);
        }
        due(x.count(0), 0);
        due(x.count(12), 0);
    }

    private static void countOfStepsAndCandidates() {
        sentence("count: 0 steps, 1 candidates - from none to 8 and 40; refused ones do not count.");
        Asked x = withCandidates(40);
        x.candidate(TRUE);
        x.candidate(0);
        due(x.count(0), 0);
        due(x.count(1), 40);
        for (int i = 0; i < 9; i++) {
            x.step(TRUE, PUT, A, 0, 0);
            x.step(TRUE, PUT, A, 0, 8);
            due(x.count(0), Math.min(8, i + 1));
        }
        due(x.count(1), 40);
        x.drop(8);
        due(x.count(0), 8);
        x.drop(7);
        due(x.count(0), 7);
    }

    private static void countOfThoseThatStand() {
        sentence("count: 2 those that stand - none of 40, or all of them.");
        Asked x = withCandidates(40);
        due(x.count(2), 40);
        x.start(7, 7, 7);
        // at most 7 of each number, a is not 1 to 6, b is not 1 to 6
        due(x.count(2), 3 + 6 + 6);
        x.start(0, 0, 1);
        due(x.count(2), 40 - 2);
        x = new Asked();
        due(x.count(2), 0);
        x.candidate(code(IS, A, 0, 1));
        due(x.count(2), 0);
        x.candidate(TRUE);
        due(x.count(2), 1);
    }

    private static void countOfSeenStates() {
        sentence("count: 3 seen states - the start state alone, or all 512.");
        Asked x = new Asked();
        due(x.count(3), 1);
        x.start(7, 7, 7);
        due(x.count(3), 1);
        x = allSeen();
        due(x.count(3), 512);
        x.wrap(1);
        due(x.count(3), 1);
    }

    private static void countOfRuns() {
        sentence("count: 4 runs .. (4 and 5 since it was begun anew) - also those that see nothing.");
        Asked x = new Asked();
        due(x.count(4), 0);
        for (int i = 1; i <= 100; i++) {
            x.run(i, 1);
            due(x.count(4), i);
        }
        x.run(0, 0);
        x.run(0, 100);
        x.run(-1, 1);
        due(x.count(4), 100);
        due(carryOut(x, "r0*1;r999*99;r1*100;r0*1"), 2);
        due(x.count(4), 102);
        x.start(0, 0, 0);
        due(x.count(4), 0);
    }

    private static void countOfRounds() {
        sentence("count: 5 rounds that struck something out (4 and 5 since it was begun anew)");
        Asked x = counter();
        due(x.count(5), 0);
        x.strike();
        due(x.count(5), 0);
        for (int k = 0; k < 7; k++) {
            x.candidate(code(AT_MOST, A, 0, k));
        }
        x.strike();
        due(x.count(5), 1);
        x.settle();
        due(x.count(5), 7);
        x.settle();
        due(x.count(5), 7);
        x.drop(1);
        due(x.count(5), 7);
        x.drop(0);
        due(x.count(5), 0);
    }

    private static void countOfStartAndWrap() {
        sentence("count: 6 the start state, 7 WRAP");
        Asked x = new Asked();
        due(x.count(6), 0);
        due(x.count(7), 0);
        x.start(7, 7, 7);
        x.wrap(1);
        due(x.count(6), 511);
        due(x.count(7), 1);
        x.wrap(2);
        x.start(0, 0, 8);
        due(x.count(6), 511);
        due(x.count(7), 1);
    }

    private static void countOfAllowedStates() {
        sentence("count: 8 allowed states - all 512, or one.");
        Asked x = new Asked();
        due(x.count(8), 512);
        x.candidate(TRUE);
        due(x.count(8), 512);
        x.candidate(code(UNLIKE, A, B, 7));
        due(x.count(8), 504);
        x.candidate(code(IS, A, 0, 0));
        due(x.count(8), 64);
        x.candidate(code(SUM, A, B, 0));
        due(x.count(8), 8);
        x.candidate(code(LESS, C, A, 0));
        due(x.count(8), 1);
    }

    private static void countOfReachedStates() {
        sentence("count: 9 states that can be reached - one, or all 512.");
        Asked x = new Asked();
        due(x.count(9), 1);
        x.step(code(IS, A, 0, 1), PUT, B, 0, 7);
        due(x.count(9), 1);
        x.step(TRUE, PUT, A, 0, 0);
        due(x.count(9), 1);
        x.step(TRUE, COPY, A, A, 1);
        // a is 0 to 7 with b 0, and once it is 1, b may be 7
        due(x.count(9), 16);
        x.step(TRUE, COPY, B, B, 1);
        x.step(TRUE, COPY, C, C, 1);
        due(x.count(9), 512);
    }

    private static void countOfTheKernel() {
        sentence("count: 10 whether those that stand are a kernel (1 or 0)");
        Asked x = new Asked();
        due(x.count(10), 1);
        x.candidate(code(AT_MOST, A, 0, 6));
        due(x.count(10), 1);
        x.step(code(IS, A, 0, 6), COPY, A, A, 1);
        due(x.count(10), 0);
        x.strike();
        due(x.count(10), 1);
    }

    private static void countOfThePad() {
        sentence("count: 11 the length of the pad - 0 to 80.");
        Asked x = new Asked();
        due(x.count(11), 0);
        for (int length = 1; length <= 80; length++) {
            x.put('k');
            due(x.count(11), length);
        }
        x.put('k');
        due(x.count(11), 80);
        x.wipe();
        due(x.count(11), 0);
    }

    private static void countOfTheHistory() {
        sentence("count: 12 how many changes can be undone - 0 to 6.");
        Asked x = new Asked();
        due(x.count(12), 0);
        for (int change = 1; change <= 9; change++) {
            x.strike();
            due(x.count(12), Math.min(6, change));
        }
        for (int left = 5; left >= 0; left--) {
            x.undo();
            due(x.count(12), left);
        }
        x.undo();
        due(x.count(12), 0);
    }

    private static void ofStateRefuses() {
        sentence("ofState: state: 0 to 511 .. BAD_VALUE if state is out of range.");
        Asked x = new Asked();
        due(x.ofState(LOWEST), BAD_VALUE);
        due(x.ofState(-1), BAD_VALUE);
        due(x.ofState(0), 7);
        due(x.ofState(511), 4);
        due(x.ofState(512), BAD_VALUE);
        due(x.ofState(HIGHEST), BAD_VALUE);
    }

    private static void ofStateTellsEach() {
        sentence("ofState: Returns 1 if it is seen, and 2 if it can be reached, and 4 if it is allowed, together.");
        Asked x = counter();
        x.candidate(code(AT_MOST, A, 0, 3));
        x.candidate(code(AT_MOST, B, 0, 3));
        x.run(0, 2);
        int[] column = {7, 7, 7, 6, 2, 2, 2, 2};
        for (int a = 0; a <= 7; a++) {
            due(x.ofState(state(a, 0, 0)), column[a]);
            due(x.ofState(state(a, 3, 7)), a <= 3 ? 4 : 0);
            due(x.ofState(state(a, 4, 7)), 0);
        }
        x.start(7, 7, 7);
        due(x.ofState(511), 7);
        due(x.ofState(0), 4);
        due(x.ofState(510), 4);
    }

    private static void provesOnlyOfAKernel() {
        sentence("proves: NOT_POSSIBLE if those that stand are no kernel.");
        Asked x = counter();
        x.candidate(code(AT_MOST, A, 0, 6));
        due(x.proves(TRUE), NOT_POSSIBLE);
        due(x.proves(code(AT_MOST, A, 0, 6)), NOT_POSSIBLE);
        due(x.proves(code(IS, A, 0, 7)), NOT_POSSIBLE);
        x.strike();
        due(x.proves(TRUE), 1);
        due(x.proves(code(AT_MOST, A, 0, 6)), 0);
    }

    private static void provesNamesBadValueFirst() {
        sentence("proves: BAD_VALUE if claim is no code of a claim; NOT_POSSIBLE if ..");
        Asked x = counter();
        for (int bad : NO_CODES) {
            due(x.proves(bad), BAD_VALUE);
        }
        x.candidate(code(AT_MOST, A, 0, 6));
        for (int bad : NO_CODES) {
            due(x.proves(bad), BAD_VALUE);
        }
    }

    private static void provesInAllAllowedStates() {
        sentence("proves: it holds in all allowed states - also in the lowest one and in the highest one.");
        Asked x = new Asked();
        due(x.proves(TRUE), 1);
        due(x.proves(code(AT_MOST, C, 0, 7)), 1);
        due(x.proves(code(UNLIKE, A, B, 0)), 0);
        // all but the states with a 0, of which 0 is one; all but those with c 7, of which 511 is one
        due(x.proves(code(AT_LEAST, A, 0, 1)), 0);
        due(x.proves(code(AT_MOST, C, 0, 6)), 0);
        x = withCandidates(40);
        due(x.proves(code(EVEN, A, B, 0)), 1);
        due(x.proves(code(EVEN, A, B, 1)), 0);
        due(x.proves(code(SUM, B, C, 0)), 1);
        x = new Asked();
        x.start(7, 7, 7);
        x.candidate(code(IS, A, 0, 7));
        x.candidate(code(IS, B, 0, 7));
        x.candidate(code(IS, C, 0, 7));
        due(x.proves(code(AT_LEAST, C, 0, 7)), 1);
        due(x.proves(code(AT_MOST, C, 0, 6)), 0);
    }

    private static void witnessIsTheLowest() {
        sentence("witness: Returns the lowest allowed state in which a claim does not hold - the state 0, or one above states that are not allowed.");
        Asked x = new Asked();
        due(x.witness(code(AT_LEAST, A, 0, 1)), 0);
        due(x.witness(code(IS, C, 0, 0)), 1);
        due(x.witness(code(IS, A, 0, 0)), 64);
        due(x.witness(code(LESS, A, B, 6)), state(7, 0, 0));
        x.start(7, 7, 7);
        x.candidate(code(AT_LEAST, B, 0, 3));
        x.candidate(code(IS, C, 0, 7));
        due(x.witness(code(AT_LEAST, A, 0, 1)), state(0, 3, 7));
        due(x.witness(code(IS, B, 0, 3)), state(0, 4, 7));
        due(x.witness(code(NOT, B, 0, 7)), state(0, 7, 7));
    }

    private static void witnessIsTheHighestAlone() {
        sentence("witness: the lowest allowed state in which a claim does not hold - if it is the highest one of all.");
        Asked x = new Asked();
        x.start(7, 7, 6);
        x.candidate(code(IS, A, 0, 7));
        x.candidate(code(IS, B, 0, 7));
        due(x.witness(code(AT_MOST, C, 0, 6)), 511);
        due(x.witness(code(AT_LEAST, C, 0, 7)), state(7, 7, 0));
        x.candidate(code(AT_LEAST, C, 0, 6));
        due(x.witness(code(LESS, C, A, -1)), 511);
        due(x.witness(code(AT_LEAST, C, 0, 7)), 510);
        due(x.witness(code(AT_LEAST, C, 0, 6)), NONE);
    }

    private static void witnessAnswersNone() {
        sentence("witness: NONE if there is none.");
        Asked x = new Asked();
        due(x.witness(TRUE), NONE);
        due(x.witness(code(AT_MOST, A, 0, 7)), NONE);
        due(x.witness(code(AT_LEAST, A, 0, 0)), NONE);
        due(x.witness(code(LESS, A, B, 7)), NONE);
        x.candidate(code(IS, A, 0, 0));
        due(x.witness(code(IS, A, 0, 0)), NONE);
        due(x.witness(code(AT_MOST, A, 0, 3)), NONE);
    }

    private static void witnessNeedsNoKernel() {
        sentence("witness: Returns the lowest allowed state - also if those that stand are no kernel.");
        Asked x = counter();
        x.candidate(code(AT_MOST, A, 0, 6));
        due(x.count(10), 0);
        due(x.witness(code(AT_MOST, A, 0, 6)), NONE);
        due(x.witness(code(AT_MOST, A, 0, 5)), state(6, 0, 0));
    }

    private static void witnessRefuses() {
        sentence("witness: BAD_VALUE if claim is no code of a claim - and not NONE.");
        Asked x = withCandidates(40);
        for (int bad : NO_CODES) {
            due(x.witness(bad), BAD_VALUE);
        }
    }

    private static void isTrueInAllReachedStates() {
        sentence("isTrue: Tells whether a claim holds in all states that can be reached - seen, allowed, or neither.");
        Asked x = counter();
        x.candidate(code(AT_MOST, A, 0, 3));
        due(x.isTrue(code(AT_MOST, A, 0, 6)), 0);
        due(x.isTrue(code(AT_MOST, A, 0, 7)), 1);
        due(x.isTrue(code(AT_LEAST, A, 0, 1)), 0);
        due(x.isTrue(code(SUM, B, C, 0)), 1);
        x.start(1, 0, 0);
        due(x.isTrue(code(AT_LEAST, A, 0, 1)), 1);
        x.wrap(1);
        due(x.isTrue(code(AT_LEAST, A, 0, 1)), 0);
    }

    private static void isTrueOfTheStartAlone() {
        sentence("isTrue: in all states that can be reached - if that is the start state alone.");
        Asked x = new Asked();
        due(x.isTrue(code(IS, A, 0, 0)), 1);
        due(x.isTrue(code(NOT, A, 0, 0)), 0);
        x.start(7, 7, 7);
        due(x.isTrue(code(IS, A, 0, 0)), 0);
        due(x.isTrue(code(IS, A, 0, 7)), 1);
        due(x.isTrue(code(EVEN, A, B, 1)), 0);
    }

    private static void isTrueOfAllStates() {
        sentence("isTrue: in all states that can be reached - if those are all 512.");
        Asked x = allSeen();
        due(x.isTrue(TRUE), 1);
        due(x.isTrue(code(AT_LEAST, A, 0, 0)), 1);
        due(x.isTrue(code(LESS, B, C, 7)), 1);
        due(x.isTrue(code(LESS, B, C, 6)), 0);
        due(x.isTrue(code(UNLIKE, A, C, 7)), 0);
        due(x.isTrue(code(UNLIKE, A, C, -7)), 0);
    }

    private static void isTrueRefuses() {
        sentence("isTrue: BAD_VALUE if claim is no code of a claim.");
        Asked x = new Asked();
        for (int bad : NO_CODES) {
            due(x.isTrue(bad), BAD_VALUE);
        }
    }

    private static void needlessOfNothing() {
        sentence("needless: Returns the candidates that stand, as a set - without candidates, or if none stands, the empty one.");
        Asked x = new Asked();
        due(x.needless(), 0);
        x.candidate(code(IS, A, 0, 1));
        due(x.needless(), 0);
    }

    private static void needlessOfOne() {
        sentence("needless: each of which holds in all states in which all others that stand hold - if there are no others, in all states.");
        Asked x = new Asked();
        x.candidate(code(AT_MOST, A, 0, 6));
        due(x.needless(), 0);
        x = new Asked();
        x.candidate(code(AT_MOST, A, 0, 7));
        due(x.needless(), 1);
        x = new Asked();
        x.candidate(TRUE);
        due(x.needless(), 1);
        x.candidate(code(AT_LEAST, A, 0, 0));
        due(x.needless(), 3);
    }

    private static void needlessOfAlikeOnes() {
        sentence("needless: .. all others that stand - two that say the same are both needless.");
        Asked x = new Asked();
        x.candidate(code(IS, A, 0, 0));
        x.candidate(code(IS, B, 0, 0));
        due(x.needless(), 0);
        x.candidate(code(AT_MOST, A, 0, 0));
        due(x.needless(), 5);
        x.candidate(code(AT_MOST, B, 0, 1));
        due(x.needless(), 13);
    }

    private static void needlessOfThoseThatStand() {
        sentence("needless: the candidates that stand, .. all others that stand - those that were struck out neither are in it nor count.");
        Asked x = counter();
        x.candidate(code(NOT, A, 0, 7));
        x.candidate(code(AT_MOST, A, 0, 6));
        x.candidate(code(IS, A, 0, 1));
        x.candidate(code(AT_MOST, B, 0, 7));
        due(x.needless(), 1 + 2 + 8);
        x.run(0, 7);
        due(x.needless(), 8);
        x = counter();
        x.candidate(code(NOT, A, 0, 7));
        x.candidate(code(AT_MOST, A, 0, 3));
        due(x.needless(), 1);
        x.strike();
        due(x.count(2), 1);
        due(x.needless(), 0);
    }

    private static void needlessOfForty() {
        sentence("needless: Returns the set - of forty candidates, the highest one, too.");
        Asked x = withCandidates(40);
        due(x.needless(), ALL_FORTY);
        x.undo();
        due(x.needless(), ALL_FORTY >>> 1);
        // without the two that say that c is 0, c may be 1: at most 1 follows from none, the others of c from it
        x = new Asked();
        x.start(0, 0, 1);
        for (int claim : fortyClaims()) {
            x.candidate(claim);
        }
        due(x.needless(), ALL_FORTY & ~(7L << 18));
        due(x.count(2), 38);
    }

    private static void neededInOneState() {
        sentence("needless: .. holds in all states in which all others that stand hold - one state, 0 or 511, is enough to need it.");
        Asked x = new Asked();
        x.start(1, 0, 0);
        x.candidate(code(IS, B, 0, 0));
        x.candidate(code(IS, C, 0, 0));
        x.candidate(code(AT_MOST, A, 0, 1));
        x.candidate(code(NOT, A, 0, 0));
        due(x.needless(), 0);
        x = new Asked();
        x.start(6, 7, 7);
        x.candidate(code(IS, B, 0, 7));
        x.candidate(code(IS, C, 0, 7));
        x.candidate(code(AT_LEAST, A, 0, 6));
        x.candidate(code(NOT, A, 0, 7));
        due(x.needless(), 0);
    }

    private static void coreOfNothing() {
        sentence("core: all candidates that stand at first - without candidates, the empty set.");
        Asked x = counter();
        due(x.core(TRUE), 0);
        due(x.core(code(AT_MOST, A, 0, 7)), 0);
        due(x.core(code(AT_MOST, A, 0, 6)), NONE);
        x.candidate(code(IS, A, 0, 1));
        due(x.core(TRUE), 0);
    }

    private static void coreInAscendingOrder() {
        sentence("core: then, in ascending order, each one is left out for good, if those that are left without it ..");
        Asked x = new Asked();
        x.candidate(code(AT_MOST, A, 0, 2));
        x.candidate(code(AT_MOST, A, 0, 1));
        x.candidate(code(IS, A, 0, 0));
        due(x.core(code(AT_MOST, A, 0, 3)), 4);
        due(x.core(code(AT_MOST, A, 0, 2)), 4);
        due(x.core(code(AT_MOST, A, 0, 0)), 4);
        x = new Asked();
        x.candidate(code(IS, A, 0, 0));
        x.candidate(code(AT_MOST, A, 0, 1));
        x.candidate(code(AT_MOST, A, 0, 2));
        due(x.core(code(AT_MOST, A, 0, 3)), 4);
        due(x.core(code(AT_MOST, A, 0, 1)), 2);
        due(x.core(code(AT_MOST, A, 0, 0)), 1);
        due(x.core(TRUE), 0);
    }

    private static void coreIsAKernelAsWell() {
        sentence("core: .. if those that are left without it are a kernel as well ..");
        Asked x = new Asked();
        x.step(TRUE, SWAP, A, B, 0);
        x.candidate(code(AT_MOST, A, 0, 6));
        x.candidate(code(AT_MOST, B, 0, 6));
        x.candidate(code(AT_MOST, C, 0, 6));
        due(x.core(code(AT_MOST, A, 0, 6)), 3);
        due(x.core(code(AT_MOST, C, 0, 6)), 3 + 4);
        due(x.core(TRUE), 3);
        // the second one cannot be left out while the first one stands, and it stands for it; the other way they both go
        x = new Asked();
        x.step(code(AT_LEAST, A, 0, 1), PUT, B, 0, 7);
        x.candidate(code(IS, A, 0, 0));
        x.candidate(code(IS, B, 0, 0));
        due(x.core(TRUE), 1);
        x = new Asked();
        x.step(code(AT_LEAST, A, 0, 1), PUT, B, 0, 7);
        x.candidate(code(IS, B, 0, 0));
        x.candidate(code(IS, A, 0, 0));
        due(x.core(TRUE), 0);
        // with WRAP 1 a step leads out past the edge
        x = new Asked();
        x.step(TRUE, COPY, A, B, 1);
        x.candidate(code(IS, B, 0, 7));
        x.start(1, 7, 0);
        x.candidate(code(AT_LEAST, A, 0, 1));
        due(x.core(TRUE), 0);
        due(x.core(code(NOT, A, 0, 0)), 2);
        x.wrap(1);
        due(x.count(10), 0);
        due(x.core(TRUE), NOT_POSSIBLE);
    }

    private static void coreProvesTheClaim() {
        sentence("core: .. and prove the claim.");
        Asked x = new Asked();
        x.candidate(code(SAME, A, B, 0));
        x.candidate(code(SAME, B, C, 0));
        x.candidate(code(SAME, A, C, 0));
        due(x.core(code(SAME, C, A, 0)), 4);
        due(x.core(code(SAME, B, A, 0)), 2 + 4);
        due(x.core(code(EVEN, A, B, 0)), 2 + 4);
        due(x.core(code(LESS, A, B, 7)), 0);
        due(x.core(code(IS, A, 0, 0)), NONE);
    }

    private static void coreOfThoseThatStand() {
        sentence("core: all candidates that stand at first - those that were struck out are not in it, and prove nothing.");
        Asked x = counter();
        x.candidate(code(AT_MOST, A, 0, 6));
        x.candidate(code(IS, B, 0, 1));
        x.candidate(code(AT_MOST, B, 0, 0));
        due(x.core(TRUE), NOT_POSSIBLE);
        x.settle();
        due(x.core(code(IS, B, 0, 0)), 4);
        due(x.core(code(AT_MOST, A, 0, 6)), NONE);
        due(x.core(TRUE), 0);
        x = new Asked();
        x.candidate(code(IS, B, 0, 1));
        x.candidate(code(AT_MOST, A, 0, 3));
        x.candidate(code(AT_MOST, A, 0, 2));
        due(x.core(code(AT_MOST, A, 0, 3)), 4);
        due(x.core(code(AT_MOST, A, 0, 4)), 4);
        due(x.core(TRUE), 0);
    }

    private static void neededForOneState() {
        sentence("core: .. are a kernel as well and prove the claim - in all states: 0 or 511 is enough to need a candidate.");
        Asked x = new Asked();
        x.start(1, 0, 0);
        x.candidate(code(AT_LEAST, A, 0, 1));
        x.candidate(code(IS, B, 0, 0));
        x.candidate(code(IS, C, 0, 0));
        for (int times = 0; times < 2; times++) {
            due(x.core(code(LESS, B, A, -1)), 1 + 2);
            due(x.core(code(NOT, A, 0, 0)), 1);
        }
        x.step(code(IS, A, 0, 0), PUT, B, 0, 1);
        due(x.core(code(IS, B, 0, 0)), 1 + 2);
        x = new Asked();
        x.start(6, 7, 7);
        x.candidate(code(AT_MOST, A, 0, 6));
        x.candidate(code(IS, B, 0, 7));
        x.candidate(code(IS, C, 0, 7));
        for (int times = 0; times < 2; times++) {
            due(x.core(code(LESS, A, B, -1)), 1 + 2);
            due(x.core(code(NOT, A, 0, 7)), 1);
        }
        x.step(code(IS, A, 0, 7), PUT, B, 0, 1);
        due(x.core(code(IS, B, 0, 7)), 1 + 2);
    }

    private static void coreOfForty() {
        sentence("core: Returns the set of those that are not left out - of forty candidates.");
        Asked x = withCandidates(40);
        due(x.core(TRUE), 0);
        due(x.core(code(IS, C, 0, 0)), 1L << 19);
        due(x.core(code(IS, A, 0, 0)), 0x7fL << 27);
        due(x.core(code(IS, B, 0, 0)), 1L << 16 | 0x3fL << 34);
        due(x.core(code(SUM, A, C, 0)), 1L << 19 | 0x7fL << 27);
        due(x.core(code(NOT, B, 0, 6)), 1L << 39);
        due(x.core(code(NOT, B, 0, 7)), 1L << 16);
    }

    private static void coreNamesItsErrorsInOrder() {
        sentence("core: -2 if claim is no code of a claim; -5 if those that stand are no kernel; -6 if it does not prove the claim.");
        Asked x = counter();
        for (int bad : NO_CODES) {
            due(x.core(bad), -2);
        }
        due(x.core(code(IS, A, 0, 0)), -6);
        x.candidate(code(AT_MOST, A, 0, 6));
        for (int bad : NO_CODES) {
            due(x.core(bad), -2);
        }
        due(x.core(code(AT_MOST, A, 0, 6)), -5);
        due(x.core(code(IS, A, 0, 7)), -5);
        x.strike();
        due(x.core(code(AT_MOST, A, 0, 6)), -6);
        due(x.core(TRUE), 0);
    }

    private static void everythingIsNumberedFromZero() {
        sentence("Everything is numbered from 0 - steps, candidates, runs, slots; only rounds are from 1 on.");
        Asked x = new Asked();
        due(x.step(TRUE, COPY, A, A, 1), 0);
        due(x.candidate(code(AT_MOST, A, 0, 1)), 0);
        due(x.candidate(code(AT_MOST, A, 0, 6)), 1);
        due(x.run(0, 2), 2);
        due(x.strike(), 1);
        dueFate(x, 0, BY_RUN, state(2, 0, 0), 0, NONE);
        dueFate(x, 1, BY_STEP, state(6, 0, 0), 0, 1);
        due(x.save(0), 0);
        due(x.save(1), 0);
        due(x.save(2), BAD_VALUE);
    }

    private static void setsAreBitMasks() {
        sentence("Sets of candidates are bit masks - of bits 0 to 39.");
        for (int which : new int[] {0, 1, 30, 31, 32, 38, 39}) {
            Asked x = new Asked();
            for (int i = 0; i < 40; i++) {
                // 39 that the start strikes out, and one that says nothing
                int k = 1 + i % 7;
                x.candidate(i == which ? TRUE : i < 21 ? code(IS, i / 7, 0, k) : code(AT_LEAST, i / 7 - 3, 0, k));
            }
            due(x.count(1), 40);
            due(x.count(2), 1);
            due(x.needless(), 1L << which);
        }
    }

    private static void questionsChangeNothing() {
        sentence("what follows; nothing changes.");
        Asked x = counter();
        x.candidate(code(AT_MOST, A, 0, 6));
        x.candidate(code(IS, B, 0, 0));
        x.strike();
        int[] before = new int[13];
        for (int what = 0; what <= 12; what++) {
            before[what] = x.count(what);
        }
        for (int times = 0; times < 3; times++) {
            due(x.proves(code(IS, B, 0, 0)), 1);
            due(x.witness(code(IS, B, 0, 1)), 0);
            due(x.isTrue(code(IS, B, 0, 0)), 1);
            due(x.needless(), 0);
            due(x.core(code(IS, B, 0, 0)), 2);
            due(x.ofStep(0, 6), 7 * 8);
            due(x.ofState(state(7, 0, 0)), 6);
        }
        for (int what = 0; what <= 12; what++) {
            due(x.count(what), before[what]);
        }
    }
}
