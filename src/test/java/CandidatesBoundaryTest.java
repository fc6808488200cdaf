import java.math.BigInteger;
import java.util.HashSet;
import java.util.Set;

/** The boundaries of candidates, runs and rounds, and of promises 6 to 10 and 15: a test for each sentence that names one. */
public final class CandidatesBoundaryTest extends Boundary {
    private static final int[] SEEDS = {0, 1, 2, 3, 7, 8, 9, 999, 65535, 65536, 65537, 1 << 30, HIGHEST - 1, HIGHEST};

    public static void main(String[] args) {
        upToFortyCandidates();
        candidatesAreAllUnlike();
        struckOutByTheStart();
        aRunBeginsAtTheStart();
        aRunPicksByItsSeed();
        aRunPicksOfTheStepsThatCanBeMade();
        aRunPicksOfTheStepsThatDoNotPassTheEdge();
        aRunGoesOnWithItsNumber();
        aRunEndsWhenItsMovesAreMade();
        aRunEndsWhenNoStepCanBeMade();
        aRunSeesAllItsStates();
        aRunStrikesOnItsWay();
        aRunStrikesOnlyWhatStands();
        aLateCandidateIsStruckOutByTheStart();
        aLateCandidateIsStruckOutByTheFirstRun();
        aLateCandidateIsStruckOutByTheFirstState();
        aLateCandidateStands();
        allowedWithoutCandidates();
        allowedByThoseThatStand();
        aStepRefutesFromAnAllowedState();
        aStepRefutesOnlyIfItCanBeMade();
        aStepRefutesAroundTheEdge();
        aRoundStrikesAtOnce();
        byTheLowestAllowedState();
        byTheLowestStep();
        aKernelWithoutSteps();
        aKernelWithoutCandidates();
        aKernelOfStates();
        theStartStateIsReached();
        stepsLeadOneWay();
        allStatesAreReached();
        candidateAnswersItsNumber();
        candidateRefusesWhatIsNoCode();
        candidateRefusesTheFortyFirst();
        candidateRefusesWhatIsThere();
        candidateNamesItsErrorsInOrder();
        guessOfEachForm();
        guessOfAllSeenStates();
        guessLeavesOutCandidates();
        guessAsFarAsThereIsRoom();
        guessIsIsToEven();
        runAnswersWhatItSawFirst();
        runTakesSeedsFromZero();
        runTakesOneToNinetyNineMoves();
        strikeAnswersHowManyFall();
        strikeOfNothing();
        settleOfNothing();
        settleOfManyRounds();
        settleOfFortyRounds();
        settleIsRoundsOfStrike();
        ofCandidateTellsNone();
        ofCandidateTellsTheRound();
        ofCandidateRefuses();
        end();
    }

    private static void upToFortyCandidates() {
        sentence("There are up to 40 candidates, .. numbered in the order in which they came.");
        int[] claims = fortyClaims();
        Asked x = new Asked();
        for (int i = 0; i < 40; i++) {
            due(x.candidate(claims[i]), i);
            due(x.count(1), i + 1);
        }
        due(x.candidate(TRUE), TOO_MANY);
        due(x.count(1), 40);
        for (int i = 0; i < 40; i++) {
            due(x.ofCandidate(i, 0), claims[i]);
        }
        due(x.ofCandidate(40, 0), NO_SUCH);
        x.undo();
        due(x.candidate(TRUE), 39);
        due(x.ofCandidate(39, 0), TRUE);
        due(x.candidate(claims[39]), TOO_MANY);
    }

    private static void candidatesAreAllUnlike() {
        sentence("candidates, claims that are all unlike - also those that were struck out.");
        Asked x = counter();
        x.candidate(code(IS, A, 0, 1));
        x.candidate(code(IS, A, 0, 0));
        x.candidate(code(AT_MOST, A, 0, 5));
        x.candidate(TRUE);
        x.run(0, 1);
        x.strike();
        int[] fates = {BY_START, BY_RUN, BY_STEP, STANDS};
        for (int i = 0; i < 4; i++) {
            due(x.ofCandidate(i, 1), fates[i]);
            due(x.candidate(x.ofCandidate(i, 0)), NOT_POSSIBLE);
        }
        // alike in all states, but not the same claim
        due(x.candidate(code(AT_LEAST, A, 0, 0)), 4);
        due(x.candidate(code(LESS, A, B, 7)), 5);
        due(x.count(1), 6);
    }

    private static void struckOutByTheStart() {
        sentence("A candidate that comes is struck out by the start if it does not hold in the start state.");
        Asked x = new Asked();
        x.start(7, 0, 7);
        x.candidate(code(AT_MOST, A, 0, 6));
        x.candidate(code(AT_LEAST, A, 0, 7));
        x.candidate(code(SAME, A, B, 7));
        x.candidate(code(SAME, A, B, 6));
        dueFate(x, 0, BY_START, state(7, 0, 7), NONE, NONE);
        dueStanding(x, 1);
        dueStanding(x, 2);
        dueFate(x, 3, BY_START, state(7, 0, 7), NONE, NONE);
        x = new Asked();
        x.candidate(code(NOT, C, 0, 0));
        dueFate(x, 0, BY_START, 0, NONE, NONE);
    }

    private static void aRunBeginsAtTheStart() {
        sentence("A run .. begins at the start state - also one that comes after another run.");
        Asked x = counter();
        x.start(1, 0, 0);
        due(x.run(0, 2), 2);
        due(x.run(0, 2), 0);
        due(x.run(0, 3), 1);
        due(x.ofState(state(4, 0, 0)) & 1, 1);
        due(x.ofState(state(5, 0, 0)) & 1, 0);
        due(x.ofState(0) & 1, 0);
        due(x.count(6), 64);
    }

    /** Up to eight steps that lead from the state (0, 0, 1) to states that are all unlike. */
    private static Asked fan(int many) {
        Asked x = new Asked();
        x.start(0, 0, 1);
        for (int i = 0; i < many; i++) {
            x.step(TRUE, PUT, i < 7 ? B : A, 0, i < 7 ? i + 1 : 1);
        }
        return x;
    }

    private static int endOfFan(int place) {
        return place < 7 ? state(0, place + 1, 1) : state(1, 0, 1);
    }

    private static long nextNumber(long number) {
        BigInteger next = BigInteger.valueOf(number).multiply(BigInteger.valueOf(1103515245)).add(BigInteger.valueOf(12345));
        return next.mod(BigInteger.valueOf(2147483648L)).longValueExact();
    }

    private static void aRunPicksByItsSeed() {
        sentence("x (at first the seed) becomes (x * 1103515245 + 12345) left over by 2147483648, and, of the n steps that can be made, in ascending order,"
            + " the one with the place (x / 65536, rounded down) left over by n is made.");
        // by hand: the seeds 0, 1 and 2147483647 give 0, 16838 and 15929 after the division
        int[][] byHand = {{0, 0, 0, 0, 0, 0, 0, 0}, {0, 0, 2, 2, 3, 2, 3, 6}, {0, 1, 2, 1, 4, 5, 4, 1}};
        int[] seeds = {0, 1, HIGHEST};
        for (int n = 1; n <= 8; n++) {
            for (int i = 0; i < seeds.length; i++) {
                duePick(n, seeds[i], byHand[i][n - 1]);
            }
            for (int seed : SEEDS) {
                duePick(n, seed, (int) (nextNumber(seed) / 65536 % n));
            }
        }
    }

    private static void duePick(int many, int seed, int place) {
        Asked x = fan(many);
        due(x.run(seed, 1), 1);
        for (int i = 0; i < 8; i++) {
            due(x.ofState(endOfFan(i)) & 1, asNumber(i == place));
        }
    }

    private static void aRunPicksOfTheStepsThatCanBeMade() {
        sentence("of the n steps that can be made, in ascending order - steps whose guard does not hold do not count.");
        for (int shut = 0; shut < 8; shut++) {
            Asked x = new Asked();
            x.start(0, 0, 1);
            for (int i = 0; i < 8; i++) {
                x.step(i == shut ? code(IS, C, 0, 0) : TRUE, PUT, i < 7 ? B : A, 0, i < 7 ? i + 1 : 1);
            }
            // seed 1 picks place 16838 left over by 7, which is 3
            due(x.run(1, 1), 1);
            due(x.ofState(endOfFan(shut <= 3 ? 4 : 3)) & 1, 1);
        }
    }

    private static void aRunPicksOfTheStepsThatDoNotPassTheEdge() {
        sentence("of the n steps that can be made - with WRAP 0 without those that would pass 7 or 0, with WRAP 1 with them.");
        for (int edge = 0; edge <= 1; edge++) {
            for (int wrap = 0; wrap <= 1; wrap++) {
                Asked x = new Asked();
                x.start(edge == 0 ? 0 : 7, 0, 0);
                x.step(TRUE, COPY, A, A, edge == 0 ? -1 : 1);
                x.step(TRUE, PUT, B, 0, 1);
                x.step(TRUE, PUT, B, 0, 2);
                x.wrap(wrap);
                int a = edge == 0 ? 0 : 7;
                // seed 0 picks the first one, seed 1 the place 16838 left over by 2 or 3, which is 0 or 2
                due(x.run(0, 1), 1);
                due(x.ofState(wrap == 1 ? state(7 - a, 0, 0) : state(a, 1, 0)) & 1, 1);
                x.wrap(wrap);
                due(x.run(1, 1), 1);
                due(x.ofState(wrap == 1 ? state(a, 2, 0) : state(a, 1, 0)) & 1, 1);
            }
        }
    }

    /** The steps a + 1, b + 1 and c + 1, which can be made in every state. */
    private static Asked ring() {
        Asked x = new Asked();
        x.wrap(1);
        for (int v = A; v <= C; v++) {
            x.step(TRUE, COPY, v, v, 1);
        }
        return x;
    }

    /** The states of a run of the ring, the start state 0 ahead of them. */
    private static int[] wayOfRing(int seed, int length) {
        int[] way = new int[length + 1];
        int[] n = new int[3];
        long number = seed;
        for (int move = 1; move <= length; move++) {
            number = nextNumber(number);
            int v = (int) (number / 65536 % 3);
            n[v] = (n[v] + 1) % 8;
            way[move] = state(n[A], n[B], n[C]);
        }
        return way;
    }

    private static int unlike(int[] way) {
        Set<Integer> states = new HashSet<>();
        for (int s : way) {
            states.add(s);
        }
        return states.size();
    }

    private static void aRunGoesOnWithItsNumber() {
        sentence("For each of its moves, x (at first the seed) becomes ..");
        for (int seed : SEEDS) {
            int[] way = wayOfRing(seed, 99);
            Asked x = ring();
            due(x.run(seed, 99), unlike(way) - 1);
            for (int s : way) {
                due(x.ofState(s), 7);
            }
            due(x.count(3), unlike(way));
        }
    }

    private static void aRunEndsWhenItsMovesAreMade() {
        sentence("It ends when its moves are made - one of them, or 99.");
        for (int seed = 0; seed < 20; seed++) {
            Asked x = ring();
            for (int length : new int[] {1, 2, 98, 99}) {
                x.start(0, 0, 0);
                due(x.run(seed, length), unlike(wayOfRing(seed, length)) - 1);
                due(x.ofState(wayOfRing(seed, length)[length]) & 1, 1);
            }
        }
        // the last move of all sees a state that was not seen by those before
        int last = 0;
        for (int seed = 0; seed < 20; seed++) {
            last += unlike(wayOfRing(seed, 99)) - unlike(wayOfRing(seed, 98));
        }
        due("seeds whose 99th move is told by the count", asNumber(last > 0), 1);
    }

    private static void aRunEndsWhenNoStepCanBeMade() {
        sentence("It ends when .. no step can be made.");
        Asked x = new Asked();
        due(x.run(3, 99), 0);
        due(x.count(4), 1);
        due(x.count(3), 1);
        x = counter();
        due(x.run(3, 99), 7);
        x.start(7, 0, 0);
        due(x.run(3, 99), 0);
        due(x.count(4), 1);
        x.wrap(1);
        due(x.run(3, 99), 7);
        x = new Asked();
        x.step(code(AT_MOST, A, 0, 2), COPY, A, A, 1);
        due(x.run(3, 3), 3);
        due(x.run(3, 99), 0);
        due(x.ofState(state(3, 0, 0)), 7);
        due(x.ofState(state(4, 0, 0)), 4);
    }

    private static void aRunSeesAllItsStates() {
        sentence("All its states are seen then - also those on its way, the start state and one that it comes to again.");
        Asked x = new Asked();
        x.step(code(AT_MOST, A, 0, 1), COPY, A, A, 1);
        x.step(code(IS, A, 0, 2), PUT, A, 0, 0);
        due(x.run(0, 99), 2);
        due(x.count(3), 3);
        for (int a = 0; a <= 3; a++) {
            due(x.ofState(state(a, 0, 0)) & 1, asNumber(a <= 2));
        }
        due(x.run(0, 99), 0);
        x = new Asked();
        x.step(TRUE, COPY, A, A, 0);
        due(x.run(0, 99), 0);
        due(x.count(3), 1);
    }

    private static void aRunStrikesOnItsWay() {
        sentence("candidates that stand, but do not hold in a state that is seen now and was not before, are struck out by this run (by the first such state on its way).");
        Asked x = new Asked();
        x.start(7, 0, 0);
        x.step(TRUE, COPY, A, A, -1);
        x.candidate(code(AT_LEAST, A, 0, 6));
        x.candidate(code(AT_LEAST, A, 0, 5));
        x.candidate(code(AT_LEAST, A, 0, 1));
        x.candidate(code(NOT, A, 0, 3));
        x.candidate(code(AT_LEAST, A, 0, 0));
        due(x.run(0, 1), 1);
        dueStanding(x, 0);
        due(x.run(0, 2), 1);
        dueFate(x, 0, BY_RUN, state(5, 0, 0), 1, NONE);
        dueStanding(x, 1);
        due(x.run(0, 99), 5);
        dueFate(x, 0, BY_RUN, state(5, 0, 0), 1, NONE);
        dueFate(x, 1, BY_RUN, state(4, 0, 0), 2, NONE);
        dueFate(x, 2, BY_RUN, 0, 2, NONE);
        dueFate(x, 3, BY_RUN, state(3, 0, 0), 2, NONE);
        dueStanding(x, 4);
    }

    private static void aRunStrikesOnlyWhatStands() {
        sentence("candidates that stand .. are struck out by this run - those that were struck out before stay as they are.");
        Asked x = counter();
        x.candidate(code(AT_MOST, A, 0, 6));
        x.candidate(code(IS, A, 0, 7));
        due(x.strike(), 1);
        due(x.run(0, 7), 7);
        dueFate(x, 0, BY_STEP, state(6, 0, 0), 0, 1);
        dueFate(x, 1, BY_START, 0, NONE, NONE);
    }

    private static void aLateCandidateIsStruckOutByTheStart() {
        sentence("A candidate that comes is struck out by the start if it does not hold in the start state, otherwise by the run ..");
        Asked x = counter();
        x.run(0, 7);
        x.candidate(code(AT_LEAST, A, 0, 1));
        x.candidate(code(IS, B, 0, 1));
        dueFate(x, 0, BY_START, 0, NONE, NONE);
        dueFate(x, 1, BY_START, 0, NONE, NONE);
    }

    private static void aLateCandidateIsStruckOutByTheFirstRun() {
        sentence("otherwise by the run that saw it first if it does not hold in a seen state");
        Asked x = fan(8);
        // the places of the seeds 1, 0 and 2147483647 are 6, 0 and 1 of eight
        x.run(1, 1);
        x.run(1, 1);
        x.run(0, 1);
        x.run(HIGHEST, 1);
        x.candidate(code(NOT, B, 0, 7));
        x.candidate(code(NOT, B, 0, 1));
        x.candidate(code(NOT, B, 0, 2));
        x.candidate(code(AT_MOST, B, 0, 1));
        x.candidate(code(EVEN, A, B, 0));
        x.candidate(code(NOT, A, 0, 1));
        dueFate(x, 0, BY_RUN, endOfFan(6), 0, NONE);
        dueFate(x, 1, BY_RUN, endOfFan(0), 2, NONE);
        dueFate(x, 2, BY_RUN, endOfFan(1), 3, NONE);
        dueFate(x, 3, BY_RUN, endOfFan(6), 0, NONE);
        dueFate(x, 4, BY_RUN, endOfFan(6), 0, NONE);
        dueStanding(x, 5);
    }

    private static void aLateCandidateIsStruckOutByTheFirstState() {
        sentence("(by the first one that was seen; of the states of a run by their way)");
        Asked x = new Asked();
        x.start(7, 0, 0);
        x.step(TRUE, COPY, A, A, -1);
        x.run(0, 3);
        x.run(0, 99);
        for (int k = 1; k <= 7; k++) {
            x.candidate(code(AT_LEAST, A, 0, k));
            int below = state(k - 1, 0, 0);
            dueFate(x, k - 1, BY_RUN, below, k - 1 >= 4 ? 0 : 1, NONE);
        }
        x.candidate(code(IS, A, 0, 7));
        dueFate(x, 7, BY_RUN, state(6, 0, 0), 0, NONE);
    }

    private static void aLateCandidateStands() {
        sentence("A candidate stands, or was struck out - a step refutes one that comes only in a round.");
        Asked x = counter();
        x.run(0, 6);
        x.candidate(code(AT_MOST, A, 0, 6));
        dueStanding(x, 0);
        x.settle();
        dueFate(x, 0, BY_STEP, state(6, 0, 0), 0, 1);
        x.candidate(code(NOT, A, 0, 7));
        dueStanding(x, 1);
        due(x.strike(), 1);
        dueFate(x, 1, BY_STEP, state(6, 0, 0), 0, 2);
    }

    private static void allowedWithoutCandidates() {
        sentence("The allowed states are those in which all candidates that stand hold - without candidates, all 512.");
        Asked x = new Asked();
        due(x.count(8), 512);
        due(x.ofState(0), 7);
        due(x.ofState(511), 4);
        x.candidate(code(IS, A, 0, 1));
        due(x.count(2), 0);
        due(x.count(8), 512);
        due(x.ofState(511), 4);
    }

    private static void allowedByThoseThatStand() {
        sentence("The allowed states are those in which all candidates that stand hold - down to the start state alone.");
        Asked x = withCandidates(40);
        due(x.count(8), 1);
        due(x.ofState(0), 7);
        for (int s : new int[] {1, 8, 64, 511}) {
            due(x.ofState(s), 0);
        }
        x.start(7, 7, 7);
        // what holds in 511: each number is at most 7, a is not 1 to 6, and b is not 1 to 6
        due(x.count(8), 2 * 2 * 8);
        due(x.ofState(511), 7);
        due(x.ofState(0), 4);
        due(x.ofState(8), 0);
        due(x.ofState(64), 0);
        due(x.ofState(384), 0);
        due(x.ofState(48), 0);
        due(x.ofState(56), 4);
    }

    private static void aStepRefutesFromAnAllowedState() {
        sentence("A step refutes a candidate that stands if it can be made in an allowed state and leads to a state in which the candidate does not hold.");
        // from (1, 0, 0) alone, which a candidate forbids and another one does not
        Asked x = new Asked();
        x.step(code(IS, A, 0, 1), PUT, B, 0, 7);
        x.candidate(code(IS, B, 0, 0));
        x.candidate(code(NOT, A, 0, 1));
        due(x.strike(), 0);
        due(x.count(10), 1);
        x = new Asked();
        x.step(code(IS, A, 0, 1), PUT, B, 0, 7);
        x.candidate(code(IS, B, 0, 0));
        x.candidate(code(NOT, A, 0, 2));
        due(x.count(10), 0);
        due(x.strike(), 1);
        dueFate(x, 0, BY_STEP, 64, 0, 1);
        dueStanding(x, 1);
    }

    private static void aStepRefutesOnlyIfItCanBeMade() {
        sentence("A step refutes a candidate .. if it can be made - not by a guard that does not hold, and not past 7 or 0 with WRAP 0.");
        Asked x = new Asked();
        x.start(3, 3, 3);
        x.step(code(LESS, A, B, -7), PUT, A, 0, 7);
        x.step(TRUE, COPY, C, C, 1);
        x.step(TRUE, COPY, B, B, -1);
        x.candidate(code(AT_MOST, A, 0, 6));
        x.candidate(code(AT_LEAST, C, 0, 1));
        x.candidate(code(AT_MOST, B, 0, 6));
        due(x.strike(), 0);
        due(x.count(10), 1);
    }

    private static void aStepRefutesAroundTheEdge() {
        sentence("A step refutes a candidate .. if it can be made - past 7 and 0 with WRAP 1, too.");
        Asked x = new Asked();
        x.start(3, 3, 3);
        x.wrap(1);
        x.step(TRUE, COPY, C, C, 1);
        x.step(TRUE, COPY, B, B, -1);
        x.candidate(code(AT_LEAST, C, 0, 1));
        x.candidate(code(AT_MOST, B, 0, 6));
        due(x.strike(), 2);
        dueFate(x, 0, BY_STEP, state(0, 0, 7), 0, 1);
        dueFate(x, 1, BY_STEP, state(0, 0, 1), 1, 1);
    }

    private static void aRoundStrikesAtOnce() {
        sentence("In a round, all candidates that some step refutes are struck out at once.");
        Asked x = counter();
        x.candidate(code(AT_MOST, A, 0, 3));
        x.candidate(code(NOT, A, 0, 4));
        x.candidate(code(AT_MOST, A, 0, 4));
        x.candidate(code(SUM, B, C, 0));
        due(x.strike(), 2);
        dueFate(x, 0, BY_STEP, state(3, 0, 0), 0, 1);
        dueFate(x, 1, BY_STEP, state(3, 0, 0), 0, 1);
        dueStanding(x, 2);
        due(x.strike(), 1);
        dueFate(x, 2, BY_STEP, state(4, 0, 0), 0, 2);
        due(x.strike(), 0);
        dueStanding(x, 3);
        // forty of them
        x = withCandidates(40);
        for (int v = A; v <= C; v++) {
            x.step(TRUE, PUT, v, 0, 7);
        }
        x.step(TRUE, PUT, A, 0, 1);
        for (int k = 2; k <= 5; k++) {
            x.step(TRUE, PUT, k % 2 == 0 ? A : B, 0, k);
        }
        // a becomes 1, 2, 4 and 7, b 3, 5 and 7, c 7: three times IS and AT_MOST 0 to 6, NOT a 1, 2, 4 and 7, NOT b 3 and 5
        due(x.strike(), 3 * 8 + 4 + 2);
        due(x.count(2), 10);
    }

    private static void byTheLowestAllowedState() {
        sentence("each by the lowest allowed state from which this is so");
        Asked x = new Asked();
        x.step(TRUE, PUT, B, 0, 7);
        x.candidate(code(AT_MOST, B, 0, 6));
        due(x.strike(), 1);
        dueFate(x, 0, BY_STEP, 0, 0, 1);
        // the highest state alone
        x = new Asked();
        x.start(7, 7, 6);
        x.step(code(IS, C, 0, 7), PUT, C, 0, 0);
        x.candidate(code(IS, A, 0, 7));
        x.candidate(code(IS, B, 0, 7));
        x.candidate(code(AT_LEAST, C, 0, 6));
        due(x.count(8), 2);
        due(x.strike(), 1);
        dueFate(x, 2, BY_STEP, 511, 0, 1);
        // lower states from which this is so are not allowed
        x = new Asked();
        x.start(4, 0, 0);
        x.step(TRUE, PUT, B, 0, 7);
        x.candidate(code(AT_MOST, B, 0, 6));
        x.candidate(code(AT_LEAST, A, 0, 3));
        x.candidate(code(AT_LEAST, A, 0, 2));
        due(x.strike(), 1);
        dueFate(x, 0, BY_STEP, state(3, 0, 0), 0, 1);
    }

    private static void byTheLowestStep() {
        sentence("of several steps by the lowest one");
        for (int first = 0; first < 8; first++) {
            Asked x = new Asked();
            for (int i = 0; i < 8; i++) {
                x.step(TRUE, PUT, i < first ? C : B, 0, 7);
            }
            x.candidate(code(IS, B, 0, 0));
            due(x.strike(), 1);
            dueFate(x, 0, BY_STEP, 0, first, 1);
        }
        // a lower state goes ahead of a lower step
        Asked x = new Asked();
        x.step(code(IS, A, 0, 1), PUT, B, 0, 7);
        x.step(code(IS, C, 0, 1), PUT, B, 0, 7);
        x.candidate(code(IS, B, 0, 0));
        due(x.strike(), 1);
        dueFate(x, 0, BY_STEP, 1, 1, 1);
    }

    private static void aKernelWithoutSteps() {
        sentence("If no step refutes any, those that stand are a kernel - without steps they are.");
        Asked x = withCandidates(40);
        due(x.count(10), 1);
        due(x.strike(), 0);
        due(x.count(2), 40);
        x.step(TRUE, COPY, A, A, 1);
        due(x.count(10), 0);
        x.drop(0);
        due(x.count(10), 1);
    }

    private static void aKernelWithoutCandidates() {
        sentence("If no step refutes any, those that stand are a kernel - if none stands, they are.");
        Asked x = counter();
        due(x.count(10), 1);
        due(x.proves(TRUE), 1);
        x.candidate(code(AT_MOST, A, 0, 6));
        due(x.count(10), 0);
        due(x.proves(TRUE), NOT_POSSIBLE);
        x.settle();
        due(x.count(2), 0);
        due(x.count(10), 1);
        due(x.proves(TRUE), 1);
    }

    private static void aKernelOfStates() {
        sentence("they hold in the start state, and each step keeps them - also in states that cannot be reached.");
        Asked x = new Asked();
        x.step(code(IS, A, 0, 7), PUT, B, 0, 7);
        x.candidate(code(IS, B, 0, 0));
        due(x.count(9), 1);
        due(x.count(10), 0);
        x.candidate(code(AT_MOST, A, 0, 6));
        due(x.count(10), 1);
        // only the state 0 refutes one, and then only the state 511
        x = new Asked();
        x.start(1, 0, 0);
        x.step(code(IS, A, 0, 0), PUT, B, 0, 1);
        x.candidate(code(IS, B, 0, 0));
        x.candidate(code(IS, C, 0, 0));
        due(x.count(10), 0);
        x = new Asked();
        x.start(6, 7, 7);
        x.step(code(IS, A, 0, 7), PUT, B, 0, 1);
        x.candidate(code(IS, B, 0, 7));
        x.candidate(code(IS, C, 0, 7));
        due(x.count(10), 0);
    }

    private static void theStartStateIsReached() {
        sentence("A state can be reached if steps lead from the start state to it - the start state by none.");
        Asked x = new Asked();
        due(x.count(9), 1);
        due(x.ofState(0) & 2, 2);
        due(x.ofState(1) & 2, 0);
        x.start(7, 7, 7);
        due(x.count(9), 1);
        due(x.ofState(511) & 2, 2);
        due(x.ofState(0) & 2, 0);
    }

    private static void stepsLeadOneWay() {
        sentence("A state can be reached if steps lead from the start state to it - not the other way, not past the edge with WRAP 0, and candidates forbid none.");
        Asked x = counter();
        x.start(5, 0, 0);
        x.candidate(code(IS, A, 0, 5));
        due(x.count(9), 3);
        for (int a = 0; a <= 7; a++) {
            due(x.ofState(state(a, 0, 0)) & 2, a >= 5 ? 2 : 0);
        }
        x.wrap(1);
        due(x.count(9), 8);
        due(x.ofState(0) & 2, 2);
    }

    private static void allStatesAreReached() {
        sentence("A state can be reached - all 512 of them.");
        Asked x = ring();
        due(x.count(9), 512);
        due(x.ofState(511) & 2, 2);
        x.start(7, 7, 7);
        due(x.count(9), 512);
        due(x.ofState(0) & 2, 2);
        x.wrap(0);
        due(x.count(9), 1);
        x.start(0, 0, 0);
        due(x.count(9), 512);
    }

    private static void candidateAnswersItsNumber() {
        sentence("candidate: Returns its number - also of one that is struck out as it comes.");
        Asked x = new Asked();
        due(x.candidate(code(IS, A, 0, 1)), 0);
        due(x.candidate(code(IS, A, 0, 0)), 1);
        due(x.candidate(7), 2);
        due(x.candidate(1298), 3);
        due(x.count(1), 4);
        due(x.count(2), 2);
    }

    private static void candidateRefusesWhatIsNoCode() {
        sentence("candidate: BAD_VALUE if claim is no code of a claim.");
        Asked x = new Asked();
        for (int bad : new int[] {LOWEST, -8, -1, 0, 6, 8, 141, 150, 1296, 1299, 1349, 1350, HIGHEST}) {
            due(x.candidate(bad), BAD_VALUE);
        }
        due(x.count(1), 0);
        due(x.count(12), 0);
    }

    private static void candidateRefusesTheFortyFirst() {
        sentence("candidate: TOO_MANY if there are 40 candidates - whether they stand or not.");
        Asked x = new Asked();
        for (int k = 1; k <= 7; k++) {
            x.candidate(code(IS, A, 0, k));
            x.candidate(code(IS, B, 0, k));
            x.candidate(code(IS, C, 0, k));
            x.candidate(code(AT_LEAST, A, 0, k));
            x.candidate(code(AT_LEAST, B, 0, k));
        }
        for (int k = 1; k <= 4; k++) {
            x.candidate(code(AT_LEAST, C, 0, k));
        }
        due(x.count(1), 39);
        due(x.count(2), 0);
        due(x.candidate(code(AT_LEAST, C, 0, 5)), 39);
        due(x.candidate(code(AT_LEAST, C, 0, 6)), TOO_MANY);
        due(x.candidate(TRUE), TOO_MANY);
        due(x.count(1), 40);
    }

    private static void candidateRefusesWhatIsThere() {
        sentence("candidate: NOT_POSSIBLE if there is one with this code - the first one, the last one, the 39th.");
        Asked x = withCandidates(1);
        due(x.candidate(fortyClaims()[0]), NOT_POSSIBLE);
        x = withCandidates(39);
        for (int i = 0; i < 39; i++) {
            due(x.candidate(fortyClaims()[i]), NOT_POSSIBLE);
        }
        due(x.candidate(fortyClaims()[39]), 39);
    }

    private static void candidateNamesItsErrorsInOrder() {
        sentence("candidate: BAD_VALUE ..; TOO_MANY ..; NOT_POSSIBLE .. - in this order.");
        Asked x = withCandidates(40);
        due(x.candidate(0), BAD_VALUE);
        due(x.candidate(fortyClaims()[0]), TOO_MANY);
        due(x.candidate(fortyClaims()[39]), TOO_MANY);
        due(x.candidate(TRUE), TOO_MANY);
    }

    private static void guessOfEachForm() {
        sentence("guess: All claims of a form come that hold in all seen states - if that is the state 0 alone, or 511.");
        int[] inZero = {3, 21, 24, 3, 6, 40, 40, 3, 3};
        int[] inLast = {3, 21, 3, 24, 6, 40, 40, 0, 3};
        int[][] firsts = {{A, 0, 0}, {A, 0, 1}, {A, 0, 0}, {A, 0, 0}, {A, B, 0}, {A, B, -7}, {A, B, 0}, {A, B, 0}, {A, B, 0}};
        int[][] lasts = {{C, 0, 0}, {C, 0, 7}, {C, 0, 7}, {C, 0, 0}, {C, B, 0}, {B, A, 5}, {C, A, 7}, {B, C, 0}, {B, C, 0}};
        for (int form = IS; form <= EVEN; form++) {
            Asked x = new Asked();
            int[] f = firsts[form - 1], l = lasts[form - 1];
            due(x.guess(form), inZero[form - 1]);
            due(x.ofCandidate(0, 0), code(form, f[0], f[1], f[2]));
            due(x.ofCandidate(inZero[form - 1] - 1, 0), code(form, l[0], l[1], l[2]));
            due(x.count(2), inZero[form - 1]);
            x = new Asked();
            x.start(7, 7, 7);
            due(x.guess(form), inLast[form - 1]);
            due(x.count(1), inLast[form - 1]);
        }
    }

    private static void guessOfAllSeenStates() {
        sentence("guess: .. that hold in all seen states - if all 512 are seen.");
        Asked x = allSeen();
        due(x.count(3), 512);
        int[] due = {0, 0, 3, 3, 0, 0, 6, 0, 0};
        for (int form = IS; form <= EVEN; form++) {
            due(x.guess(form), due[form - 1]);
        }
        due(x.count(1), 12);
        due(x.ofCandidate(0, 0), code(AT_MOST, A, 0, 7));
        due(x.ofCandidate(3, 0), code(AT_LEAST, A, 0, 0));
        due(x.ofCandidate(11, 0), code(LESS, C, B, 7));
    }

    private static void guessLeavesOutCandidates() {
        sentence("guess: .. and are not candidates yet, in the order of their codes.");
        Asked x = new Asked();
        x.candidate(code(IS, B, 0, 0));
        due(x.guess(IS), 2);
        due(x.ofCandidate(1, 0), code(IS, A, 0, 0));
        due(x.ofCandidate(2, 0), code(IS, C, 0, 0));
        due(x.guess(IS), 0);
        due(x.count(12), 3);
        // one that was struck out is a candidate, although it holds in all seen states
        x = counter();
        x.candidate(code(AT_MOST, A, 0, 6));
        x.settle();
        due(x.guess(AT_MOST), 23);
        due(x.guess(AT_MOST), 0);
        due(x.ofCandidate(0, 1), BY_STEP);
    }

    private static void guessAsFarAsThereIsRoom() {
        sentence("guess: .. as far as there is room for them.");
        for (int there = 36; there <= 40; there++) {
            Asked x = new Asked();
            x.start(0, 1, 2);
            for (int i = 0; i < there; i++) {
                x.candidate(fortyClaims()[i]);
            }
            int room = 40 - there;
            // a is b - 1 and c - 2, b is a + 1 and c - 1, c is a + 2 and b + 1
            due(x.guess(SAME), Math.min(6, room));
            due(x.count(1), 40);
            int[][] come = {{A, B, -1}, {A, C, -2}, {B, A, 1}, {B, C, -1}};
            for (int i = 0; i < room; i++) {
                due(x.ofCandidate(there + i, 0), code(SAME, come[i][0], come[i][1], come[i][2]));
                dueStanding(x, there + i);
            }
            due(x.guess(SAME), 0);
            due(x.guess(EVEN), 0);
            due(x.count(1), 40);
            due(x.count(12), 6);
        }
        Asked x = withCandidates(37);
        due(x.guess(SUM), 3);
        due(x.ofCandidate(39, 0), code(SUM, B, C, 0));
    }

    private static void guessIsIsToEven() {
        sentence("guess: form: IS to EVEN .. BAD_VALUE if form is out of range.");
        Asked x = new Asked();
        for (int bad : new int[] {LOWEST, -1, ALWAYS, EVEN + 1, HIGHEST}) {
            due(x.guess(bad), BAD_VALUE);
        }
        due(x.count(1), 0);
        due(x.count(12), 0);
        due(x.guess(IS), 3);
        due(x.guess(EVEN), 3);
        x = withCandidates(40);
        due(x.guess(ALWAYS), BAD_VALUE);
        due(x.guess(EVEN + 1), BAD_VALUE);
        due(x.guess(IS), 0);
    }

    private static void runAnswersWhatItSawFirst() {
        sentence("run: Returns how many states are seen by it that were not before.");
        Asked x = counter();
        due(x.run(0, 1), 1);
        due(x.run(0, 1), 0);
        due(x.run(0, 3), 2);
        due(x.run(0, 99), 4);
        due(x.run(0, 99), 0);
        due(x.count(3), 8);
        due(x.count(4), 5);
        x = allSeen();
        due(x.run(12345, 99), 0);
        due(x.count(3), 512);
        due(x.count(4), 151);
    }

    private static void runTakesSeedsFromZero() {
        sentence("run: seed: 0 or more .. BAD_VALUE if an argument is out of range.");
        Asked x = counter();
        due(x.run(-1, 1), BAD_VALUE);
        due(x.run(LOWEST, 1), BAD_VALUE);
        due(x.run(-1, 0), BAD_VALUE);
        due(x.count(4), 0);
        due(x.count(12), 1);
        due(x.run(0, 1), 1);
        due(x.run(HIGHEST, 1), 0);
        due(x.count(4), 2);
    }

    private static void runTakesOneToNinetyNineMoves() {
        sentence("run: length: 1 to 99 .. BAD_VALUE if an argument is out of range.");
        Asked x = counter();
        for (int bad : new int[] {LOWEST, -1, 0, 100, HIGHEST}) {
            due(x.run(0, bad), BAD_VALUE);
        }
        due(x.count(4), 0);
        due(x.count(12), 1);
        due(x.run(0, 1), 1);
        due(x.run(0, 99), 6);
    }

    private static void strikeAnswersHowManyFall() {
        sentence("strike: Returns how many candidates are struck out by it - none, one, forty.");
        Asked x = counter();
        x.candidate(code(AT_MOST, A, 0, 6));
        due(x.strike(), 1);
        due(x.strike(), 0);
        due(x.count(12), 4);
        // from the only allowed state to one in which none of 35 claims holds, and to one in which five others do not
        x = new Asked();
        x.step(TRUE, PUT, A, 0, 7);
        x.step(TRUE, PUT, B, 0, 7);
        for (int k = 0; k <= 6; k++) {
            x.candidate(code(AT_MOST, A, 0, k));
            x.candidate(code(LESS, A, B, k));
            x.candidate(code(LESS, A, C, k));
        }
        int[][] more = {{IS, A, 0, 0}, {SAME, A, B, 0}, {SAME, A, C, 0}, {SAME, B, A, 0}, {SAME, C, A, 0}, {NOT, A, 0, 7}, {UNLIKE, A, B, 7}, {UNLIKE, A, C, 7},
            {UNLIKE, B, A, -7}, {UNLIKE, C, A, -7}, {EVEN, A, B, 0}, {EVEN, A, C, 0}, {SUM, A, B, 0}, {SUM, A, C, 0},
            {IS, B, 0, 0}, {AT_MOST, B, 0, 0}, {AT_MOST, B, 0, 1}, {AT_MOST, B, 0, 5}, {AT_MOST, B, 0, 6}};
        for (int[] m : more) {
            x.candidate(code(m[0], m[1], m[2], m[3]));
        }
        due(x.count(2), 40);
        due(x.strike(), 40);
        for (int i = 0; i < 40; i++) {
            dueFate(x, i, BY_STEP, 0, i < 35 ? 0 : 1, 1);
        }
        due(x.count(2), 0);
        due(x.count(5), 1);
    }

    private static void strikeOfNothing() {
        sentence("strike: Makes a round. This is a change - also one that strikes nothing out, which is not counted as a round.");
        Asked x = new Asked();
        due(x.strike(), 0);
        due(x.count(5), 0);
        due(x.count(12), 1);
        x.candidate(TRUE);
        due(x.strike(), 0);
        x.step(TRUE, PUT, A, 0, 1);
        due(x.strike(), 0);
        due(x.count(5), 0);
        due(x.count(12), 5);
    }

    private static void settleOfNothing() {
        sentence("settle: Returns how many rounds struck something out - none without steps, without candidates, of a kernel.");
        Asked x = new Asked();
        due(x.settle(), 0);
        x.candidate(code(IS, A, 0, 0));
        due(x.settle(), 0);
        x.step(TRUE, COPY, A, A, 1);
        due(x.settle(), 1);
        due(x.settle(), 0);
        due(x.count(5), 1);
        due(x.count(12), 6);
    }

    /** A machine in which each round strikes one candidate out, in the order in which they came. */
    private static Asked manyRounds() {
        Asked x = new Asked();
        // a goes up; then b, where a is 7; then c, where b is 7
        x.step(TRUE, COPY, A, A, 1);
        x.step(code(IS, A, 0, 7), COPY, B, B, 1);
        x.step(code(IS, B, 0, 7), COPY, C, C, 1);
        // then a goes down, where c is 7; then b, where a is 0 and c is 7
        x.step(code(IS, C, 0, 7), COPY, A, A, -1);
        x.step(code(SAME, A, C, -7), COPY, B, B, -1);
        for (int v = A; v <= C; v++) {
            for (int k = 1; k <= 7; k++) {
                x.candidate(code(NOT, v, 0, k));
            }
        }
        for (int k = 1; k <= 7; k++) {
            x.candidate(code(UNLIKE, A, B, -k));
        }
        for (int k = 1; k <= 7; k++) {
            x.candidate(code(UNLIKE, B, C, -k));
        }
        return x;
    }

    private static int lastStateOfManyRounds(int round) {
        int k = round % 7;
        switch (round / 7) {
            case 0: return state(k, 0, 0);
            case 1: return state(7, k, 0);
            case 2: return state(7, 7, k);
            case 3: return state(7 - k, 7, 7);
            default: return state(0, 7 - k, 7);
        }
    }

    private static void settleOfManyRounds() {
        sentence("settle: Makes rounds until one strikes nothing out - 35 rounds of one candidate each.");
        Asked x = manyRounds();
        due(x.count(2), 35);
        due(x.settle(), 35);
        due(x.count(5), 35);
        due(x.count(2), 0);
        due(x.count(12), 6);
        for (int i = 0; i < 35; i++) {
            dueFate(x, i, BY_STEP, lastStateOfManyRounds(i), Math.min(i / 7, 4), i + 1);
        }
        due(x.settle(), 0);
        due(x.undo(), 5);
        due(x.undo(), 4);
        due(x.count(2), 35);
        due(x.count(5), 0);
    }

    /** Forty candidates of which each round strikes one out; a search found them. */
    private static Asked fortyRounds() {
        Asked x = new Asked();
        int[][] steps = {{599, COPY, C, C, 1}, {705, COPY, B, B, -1}, {1035, COPY, B, B, 1}, {238, PUT, B, 0, 7}, {908, COPY, A, A, 1}};
        int[] claims = {503, 925, 890, 923, 370, 908, 1043, 413, 868, 898, 911, 1061, 1003, 506, 1063, 888, 787, 368, 844, 505, 417, 998, 507, 914, 835, 327, 284,
            829, 841, 867, 1000, 1028, 772, 1046, 415, 899, 1062, 852, 831, 459};
        for (int[] s : steps) {
            x.step(s[0], s[1], s[2], s[3], s[4]);
        }
        for (int claim : claims) {
            x.candidate(claim);
        }
        return x;
    }

    private static void settleOfFortyRounds() {
        sentence("settle: Makes rounds until one strikes nothing out - 40 rounds of one candidate each, as many as there can be.");
        Asked x = fortyRounds();
        due(x.count(2), 40);
        due(x.settle(), 40);
        due(x.count(2), 0);
        due(x.count(5), 40);
        long rounds = 0;
        for (int i = 0; i < 40; i++) {
            rounds |= 1L << x.ofCandidate(i, 4);
        }
        due("the rounds of all forty, as a set", rounds, (1L << 41) - 2);
        due(x.settle(), 0);
        x = fortyRounds();
        for (int round = 1; round <= 40; round++) {
            due(x.strike(), 1);
            due(x.count(5), round);
            due(x.count(2), 40 - round);
        }
        due(x.strike(), 0);
        due(x.count(5), 40);
    }

    private static void settleIsRoundsOfStrike() {
        sentence("settle: Makes rounds - as many calls of strike() would; the rounds go on being counted.");
        Asked x = manyRounds();
        for (int round = 1; round <= 10; round++) {
            due(x.strike(), 1);
            due(x.count(5), round);
        }
        due(x.settle(), 25);
        due(x.count(5), 35);
        for (int i = 0; i < 35; i++) {
            due(x.ofCandidate(i, 4), i + 1);
        }
        due(x.strike(), 0);
        x.wrap(0);
        due(x.count(5), 0);
        due(x.settle(), 35);
        due(x.ofCandidate(0, 4), 1);
    }

    private static void ofCandidateTellsNone() {
        sentence("ofCandidate: (2 to 4: NONE if there is none)");
        Asked x = counter();
        x.candidate(code(IS, A, 0, 0));
        x.candidate(code(IS, A, 0, 1));
        x.candidate(code(AT_MOST, A, 0, 6));
        x.candidate(TRUE);
        x.run(0, 1);
        x.settle();
        // by a run there is no round, by the start neither a number nor a round
        dueFate(x, 0, BY_RUN, 64, 0, NONE);
        dueFate(x, 1, BY_START, 0, NONE, NONE);
        dueFate(x, 2, BY_STEP, state(6, 0, 0), 0, 1);
        dueFate(x, 3, STANDS, NONE, NONE, NONE);
    }

    private static void ofCandidateTellsTheRound() {
        sentence("ofCandidate: 4 the round, of those that struck something out, from 1 on, counted since it was begun anew");
        Asked x = counter();
        x.candidate(code(IS, B, 0, 0));
        due(x.strike(), 0);
        due(x.strike(), 0);
        x.candidate(code(AT_MOST, A, 0, 6));
        due(x.strike(), 1);
        due(x.ofCandidate(1, 4), 1);
        due(x.strike(), 0);
        x.candidate(code(NOT, A, 0, 7));
        due(x.settle(), 1);
        due(x.ofCandidate(2, 4), 2);
        x.start(0, 0, 0);
        dueStanding(x, 1);
        due(x.settle(), 1);
        due(x.ofCandidate(1, 4), 1);
        due(x.ofCandidate(2, 4), 1);
    }

    private static void ofCandidateRefuses() {
        sentence("ofCandidate: NO_SUCH if there is no such candidate; BAD_VALUE if what is out of range.");
        Asked x = new Asked();
        due(x.ofCandidate(0, 0), NO_SUCH);
        due(x.ofCandidate(-1, 0), NO_SUCH);
        due(x.ofCandidate(0, 5), NO_SUCH);
        x = withCandidates(40);
        for (int bad : new int[] {LOWEST, -1, 40, 41, HIGHEST}) {
            for (int what : new int[] {LOWEST, -1, 0, 4, 5, HIGHEST}) {
                due(x.ofCandidate(bad, what), NO_SUCH);
            }
        }
        for (int what : new int[] {LOWEST, -1, 5, HIGHEST}) {
            due(x.ofCandidate(0, what), BAD_VALUE);
            due(x.ofCandidate(39, what), BAD_VALUE);
        }
        due(x.ofCandidate(39, 0), fortyClaims()[39]);
        due(x.ofCandidate(39, 4), NONE);
        x.undo();
        due(x.ofCandidate(39, 0), NO_SUCH);
        due(x.ofCandidate(38, 0), fortyClaims()[38]);
    }
}
