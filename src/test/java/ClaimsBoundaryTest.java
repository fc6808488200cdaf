/** The boundaries of states and claims, and of promises 11 and 12: a test for each sentence that names one. */
public final class ClaimsBoundaryTest extends Boundary {
    private static final int HIGHEST_CODE = 1298;

    public static void main(String[] args) {
        statesAreNumberedByTheirNumbers();
        numbersZeroOneAndTwo();
        alwaysHoldsInEachState();
        isIsK();
        notIsNotK();
        atMostIsAtMostK();
        atLeastIsAtLeastK();
        kOfOneNumberIsZeroToSeven();
        sameIsYAndK();
        unlikeIsNotYAndK();
        lessIsAtMostYAndK();
        kOfTwoNumbersIsMinusSevenToSeven();
        yIsNotX();
        sumIsK();
        evenIsEven();
        yIsAboveX();
        zeroForWhatTheFormDoesNotTell();
        claimsDoNotWrap();
        theCodeOfAClaim();
        noOtherCodeIsOne();
        claimAnswersTheCode();
        claimRefusesWhatIsNone();
        holdsAnswersOneOrZero();
        holdsRefusesWhatIsNoCode();
        holdsRefusesStatesOutOfRange();
        end();
    }

    private static void statesAreNumberedByTheirNumbers() {
        sentence("A state is three numbers a, b and c, 0 to 7 each; its number is 64 * a + 8 * b + c.");
        Asked x = new Asked();
        int before = 0;
        for (int s = 0; s < 512; s++) {
            due(x.start(s / 64, s / 8 % 8, s % 8), before);
            before = s;
        }
        x = new Asked();
        x.start(7, 7, 7);
        due(x.count(6), 511);
        x.start(7, 0, 0);
        due(x.count(6), 448);
        x.start(0, 7, 0);
        due(x.count(6), 56);
        x.start(0, 0, 7);
        due(x.count(6), 7);
    }

    private static void numbersZeroOneAndTwo() {
        sentence("They are the numbers 0, 1 and 2 of the state.");
        Asked x = new Asked();
        int[] seven = {448, 56, 7};
        for (int v = A; v <= C; v++) {
            x.step(TRUE, PUT, v, 0, 7);
            due(x.leads(v, 0), seven[v]);
            for (int other = A; other <= C; other++) {
                due(x.holds(code(IS, v, 0, 7), seven[other]), asNumber(v == other));
            }
        }
    }

    /** In how many states a claim holds; each answer is asked. */
    private static int timesHolds(int form, int x, int y, int k) {
        Asked asked = new Asked();
        int times = 0;
        for (int s = 0; s < 512; s++) {
            int got = asked.holds(code(form, x, y, k), s);
            due(got, asNumber(isMet(form, x, y, k, s)));
            times += got;
        }
        return times;
    }

    private static void dueTimes(int form, int x, int y, int k, int want) {
        due("in how many states " + form + " " + x + " " + y + " " + k + " holds", timesHolds(form, x, y, k), want);
    }

    private static void alwaysHoldsInEachState() {
        sentence("ALWAYS (0): it holds in each state.");
        dueTimes(ALWAYS, 0, 0, 0, 512);
    }

    private static void isIsK() {
        sentence("IS (1): x is k.");
        for (int v = A; v <= C; v++) {
            for (int k = 0; k <= 7; k++) {
                dueTimes(IS, v, 0, k, 64);
            }
        }
    }

    private static void notIsNotK() {
        sentence("NOT (2): x is not k.");
        for (int v = A; v <= C; v++) {
            for (int k = 0; k <= 7; k++) {
                dueTimes(NOT, v, 0, k, 448);
            }
        }
    }

    private static void atMostIsAtMostK() {
        sentence("AT_MOST (3): x is at most k.");
        for (int v = A; v <= C; v++) {
            for (int k = 0; k <= 7; k++) {
                dueTimes(AT_MOST, v, 0, k, 64 * (k + 1));
            }
        }
        Asked x = new Asked();
        due(x.holds(code(AT_MOST, B, 0, 4), state(7, 4, 7)), 1);
        due(x.holds(code(AT_MOST, B, 0, 4), state(0, 5, 0)), 0);
    }

    private static void atLeastIsAtLeastK() {
        sentence("AT_LEAST (4): x is at least k.");
        for (int v = A; v <= C; v++) {
            for (int k = 0; k <= 7; k++) {
                dueTimes(AT_LEAST, v, 0, k, 64 * (8 - k));
            }
        }
        Asked x = new Asked();
        due(x.holds(code(AT_LEAST, B, 0, 4), state(0, 4, 0)), 1);
        due(x.holds(code(AT_LEAST, B, 0, 4), state(7, 3, 7)), 0);
    }

    private static void kOfOneNumberIsZeroToSeven() {
        sentence("IS .. AT_LEAST: (k is 0 to 7.)");
        for (int form = IS; form <= AT_LEAST; form++) {
            Asked x = new Asked();
            for (int v = A; v <= C; v++) {
                due(x.claim(form, v, 0, -1), BAD_VALUE);
                due(x.claim(form, v, 0, 0), code(form, v, 0, 0));
                due(x.claim(form, v, 0, 7), code(form, v, 0, 7));
                due(x.claim(form, v, 0, 8), BAD_VALUE);
                due(x.holds(code(form, v, 0, -1), 0), BAD_VALUE);
                due(x.holds(code(form, v, 0, 8), 0), BAD_VALUE);
            }
        }
    }

    private static void sameIsYAndK() {
        sentence("SAME (5): x is y + k.");
        for (int x = A; x <= C; x++) {
            for (int y = A; y <= C; y++) {
                for (int k = -7; k <= 7 && y != x; k++) {
                    dueTimes(SAME, x, y, k, 8 * (8 - Math.abs(k)));
                }
            }
        }
        Asked x = new Asked();
        due(x.holds(code(SAME, A, B, 7), state(7, 0, 0)), 1);
        due(x.holds(code(SAME, A, B, 7), state(6, 0, 0)), 0);
        due(x.holds(code(SAME, A, B, -7), state(0, 7, 0)), 1);
        due(x.holds(code(SAME, A, B, -7), state(0, 6, 0)), 0);
    }

    private static void unlikeIsNotYAndK() {
        sentence("UNLIKE (6): x is not y + k.");
        for (int x = A; x <= C; x++) {
            for (int y = A; y <= C; y++) {
                for (int k = -7; k <= 7 && y != x; k++) {
                    dueTimes(UNLIKE, x, y, k, 512 - 8 * (8 - Math.abs(k)));
                }
            }
        }
        Asked x = new Asked();
        due(x.holds(code(UNLIKE, C, A, 7), state(0, 0, 7)), 0);
        due(x.holds(code(UNLIKE, C, A, 7), state(0, 0, 6)), 1);
        due(x.holds(code(UNLIKE, C, A, -7), state(7, 0, 0)), 0);
        due(x.holds(code(UNLIKE, C, A, -7), state(6, 0, 0)), 1);
    }

    private static void lessIsAtMostYAndK() {
        sentence("LESS (7): x is at most y + k.");
        for (int x = A; x <= C; x++) {
            for (int y = A; y <= C; y++) {
                for (int k = -7; k <= 7 && y != x; k++) {
                    int pairs = k < 0 ? (8 + k) * (9 + k) / 2 : 64 - (7 - k) * (8 - k) / 2;
                    dueTimes(LESS, x, y, k, 8 * pairs);
                }
            }
        }
        Asked x = new Asked();
        due(x.holds(code(LESS, B, C, 7), state(0, 7, 0)), 1);
        due(x.holds(code(LESS, B, C, 6), state(0, 7, 0)), 0);
        due(x.holds(code(LESS, B, C, -7), state(0, 0, 7)), 1);
        due(x.holds(code(LESS, B, C, -7), state(0, 0, 6)), 0);
        due(x.holds(code(LESS, B, C, 0), state(0, 3, 3)), 1);
        due(x.holds(code(LESS, B, C, 0), state(0, 4, 3)), 0);
    }

    private static void kOfTwoNumbersIsMinusSevenToSeven() {
        sentence("SAME, UNLIKE, LESS: (k is -7 to 7 ..)");
        for (int form = SAME; form <= LESS; form++) {
            Asked x = new Asked();
            for (int v = A; v <= C; v++) {
                for (int w = A; w <= C; w++) {
                    if (w != v) {
                        due(x.claim(form, v, w, -8), BAD_VALUE);
                        due(x.claim(form, v, w, -7), code(form, v, w, -7));
                        due(x.claim(form, v, w, 7), code(form, v, w, 7));
                        due(x.claim(form, v, w, 8), BAD_VALUE);
                    }
                }
            }
        }
    }

    private static void yIsNotX() {
        sentence("SAME, UNLIKE, LESS: (.. y is not x.)");
        for (int form = SAME; form <= LESS; form++) {
            Asked x = new Asked();
            for (int v = A; v <= C; v++) {
                for (int k : new int[] {-7, 0, 7}) {
                    due(x.claim(form, v, v, k), BAD_VALUE);
                    due(x.holds(code(form, v, v, k), 0), BAD_VALUE);
                    due(x.claim(form, v, (v + 1) % 3, k), code(form, v, (v + 1) % 3, k));
                    due(x.claim(form, v, (v + 2) % 3, k), code(form, v, (v + 2) % 3, k));
                }
            }
        }
    }

    private static void sumIsK() {
        sentence("SUM (8): x + y is k. (k is 0 to 7 ..)");
        int[][] pairs = {{A, B}, {A, C}, {B, C}};
        for (int[] p : pairs) {
            for (int k = 0; k <= 7; k++) {
                dueTimes(SUM, p[0], p[1], k, 8 * (k + 1));
            }
            Asked x = new Asked();
            due(x.claim(SUM, p[0], p[1], -1), BAD_VALUE);
            due(x.claim(SUM, p[0], p[1], 0), code(SUM, p[0], p[1], 0));
            due(x.claim(SUM, p[0], p[1], 7), code(SUM, p[0], p[1], 7));
            due(x.claim(SUM, p[0], p[1], 8), BAD_VALUE);
            due(x.holds(code(SUM, p[0], p[1], -1), 0), BAD_VALUE);
            due(x.holds(code(SUM, p[0], p[1], 8), 0), BAD_VALUE);
        }
    }

    private static void evenIsEven() {
        sentence("EVEN (9): x + y + k is even. (k is 0 or 1 ..)");
        int[][] pairs = {{A, B}, {A, C}, {B, C}};
        for (int[] p : pairs) {
            for (int k = 0; k <= 1; k++) {
                dueTimes(EVEN, p[0], p[1], k, 256);
            }
            Asked x = new Asked();
            due(x.claim(EVEN, p[0], p[1], -1), BAD_VALUE);
            due(x.claim(EVEN, p[0], p[1], 0), code(EVEN, p[0], p[1], 0));
            due(x.claim(EVEN, p[0], p[1], 1), code(EVEN, p[0], p[1], 1));
            due(x.claim(EVEN, p[0], p[1], 2), BAD_VALUE);
            due(x.holds(code(EVEN, p[0], p[1], -1), 0), BAD_VALUE);
            due(x.holds(code(EVEN, p[0], p[1], 2), 0), BAD_VALUE);
        }
    }

    private static void yIsAboveX() {
        sentence("SUM, EVEN: (.. y is above x.)");
        for (int form = SUM; form <= EVEN; form++) {
            Asked x = new Asked();
            for (int v = A; v <= C; v++) {
                for (int w = A; w <= C; w++) {
                    for (int k = 0; k <= 1; k++) {
                        due(x.claim(form, v, w, k), w > v ? code(form, v, w, k) : BAD_VALUE);
                        due(x.holds(code(form, v, w, k), 0), w > v ? asNumber(k == 0) : BAD_VALUE);
                    }
                }
            }
        }
    }

    private static void zeroForWhatTheFormDoesNotTell() {
        sentence("A claim has a form, and up to two of these numbers, x and y, and a number k (0 for each that its form does not tell).");
        Asked x = new Asked();
        int[][] more = {{1, 0, 0}, {2, 0, 0}, {0, 1, 0}, {0, 2, 0}, {0, 0, 1}, {0, 0, -1}, {0, 0, 7}, {0, 0, -7}};
        for (int[] m : more) {
            due(x.claim(ALWAYS, m[0], m[1], m[2]), BAD_VALUE);
            due(x.holds(code(ALWAYS, m[0], m[1], m[2]), 0), BAD_VALUE);
        }
        due(x.claim(ALWAYS, 0, 0, 0), TRUE);
        for (int form = IS; form <= AT_LEAST; form++) {
            for (int v = A; v <= C; v++) {
                due(x.claim(form, v, 0, 3), code(form, v, 0, 3));
                due(x.claim(form, v, 1, 3), BAD_VALUE);
                due(x.claim(form, v, 2, 3), BAD_VALUE);
                due(x.holds(code(form, v, 1, 3), 0), BAD_VALUE);
                due(x.holds(code(form, v, 2, 3), 0), BAD_VALUE);
            }
        }
    }

    private static void claimsDoNotWrap() {
        sentence("If WRAP (0 or 1; 0 at first) is 1, a number that would be above 7 or below 0 becomes 8 less, or 8 more - of steps, not of claims.");
        for (int on = 0; on <= 1; on++) {
            Asked x = new Asked();
            x.wrap(on);
            due(x.holds(code(SAME, A, B, 7), state(0, 1, 0)), 0);
            due(x.holds(code(SAME, A, B, -7), state(1, 0, 0)), 0);
            due(x.holds(code(UNLIKE, A, B, 1), state(0, 7, 0)), 1);
            due(x.holds(code(UNLIKE, A, B, -1), state(7, 0, 0)), 1);
            due(x.holds(code(LESS, A, B, 1), state(7, 7, 0)), 1);
            due(x.holds(code(LESS, A, B, -1), state(0, 0, 0)), 0);
            due(x.holds(code(SUM, A, B, 0), state(4, 4, 0)), 0);
            due(x.holds(code(SUM, A, B, 6), state(7, 7, 0)), 0);
        }
    }

    private static void theCodeOfAClaim() {
        sentence("The code of a claim is 15 * (9 * form + 3 * x + y) + k + 7.");
        Asked x = new Asked();
        due(x.claim(ALWAYS, 0, 0, 0), 7);
        due(x.claim(IS, A, 0, 0), 142);
        due(x.claim(AT_LEAST, C, 0, 7), 15 * (36 + 6) + 14);
        due(x.claim(SAME, A, B, -7), 15 * (45 + 1));
        due(x.claim(LESS, C, B, 7), 15 * (63 + 6 + 1) + 14);
        due(x.claim(EVEN, B, C, 1), HIGHEST_CODE);
        due(x.holds(7, 0), 1);
        due(x.holds(HIGHEST_CODE, state(0, 1, 0)), 1);
        due(x.holds(HIGHEST_CODE, state(0, 1, 1)), 0);
    }

    private static void noOtherCodeIsOne() {
        sentence("BAD_VALUE if claim is no code of a claim - between the lowest and the highest one, and beside them.");
        boolean[] isCode = new boolean[1350];
        int claims = 0;
        for (int form = ALWAYS; form <= EVEN; form++) {
            for (int x = A; x <= C; x++) {
                for (int y = A; y <= C; y++) {
                    for (int k = -7; k <= 7; k++) {
                        isCode[code(form, x, y, k)] = isClaim(form, x, y, k);
                        claims += asNumber(isClaim(form, x, y, k));
                    }
                }
            }
        }
        due("the claims that there are", claims, 1 + 4 * 24 + 3 * 90 + 24 + 6);
        Asked x = new Asked();
        for (int code = -40; code < 1400; code++) {
            x = (code + 40) % 400 == 0 ? new Asked() : x;
            boolean good = code >= 0 && code < isCode.length && isCode[code];
            due("whether holds(" + code + ", 0) answers", asNumber(x.holds(code, 0) >= 0), asNumber(good));
        }
    }

    private static void claimAnswersTheCode() {
        sentence("claim: Returns the code; the same ranges are asked for each form.");
        for (int form = ALWAYS; form <= EVEN; form++) {
            for (int v = A; v <= C; v++) {
                Asked x = new Asked();
                for (int w = A; w <= C; w++) {
                    for (int k = -7; k <= 7; k++) {
                        due(x.claim(form, v, w, k), isClaim(form, v, w, k) ? code(form, v, w, k) : BAD_VALUE);
                    }
                }
            }
        }
    }

    private static void claimRefusesWhatIsNone() {
        sentence("claim: BAD_VALUE if there is no such claim.");
        Asked x = new Asked();
        due(x.claim(-1, 0, 0, 0), BAD_VALUE);
        due(x.claim(10, 0, 1, 0), BAD_VALUE);
        due(x.claim(IS, -1, 0, 0), BAD_VALUE);
        due(x.claim(IS, 3, 0, 0), BAD_VALUE);
        due(x.claim(IS, 0, -1, 0), BAD_VALUE);
        for (int form = SAME; form <= EVEN; form++) {
            due(x.claim(form, -1, 1, 0), BAD_VALUE);
            due(x.claim(form, 3, 1, 0), BAD_VALUE);
            due(x.claim(form, 1, -1, 0), BAD_VALUE);
            due(x.claim(form, 1, 3, 0), BAD_VALUE);
            for (int far : new int[] {LOWEST, HIGHEST}) {
                due(x.claim(form, far, 1, 0), BAD_VALUE);
                due(x.claim(form, 0, far, 0), BAD_VALUE);
                due(x.claim(form, 0, 1, far), BAD_VALUE);
            }
        }
        for (int far : new int[] {LOWEST, HIGHEST}) {
            due(x.claim(far, 0, 0, 0), BAD_VALUE);
            due(x.claim(ALWAYS, far, 0, 0), BAD_VALUE);
            due(x.claim(ALWAYS, 0, far, 0), BAD_VALUE);
            due(x.claim(ALWAYS, 0, 0, far), BAD_VALUE);
            due(x.claim(IS, 0, 0, far), BAD_VALUE);
            due(x.claim(IS, far, 0, 0), BAD_VALUE);
        }
    }

    private static void holdsAnswersOneOrZero() {
        sentence("holds: Returns 1 or 0 - whether or not the state is seen, reached or allowed.");
        Asked x = new Asked();
        x.candidate(code(IS, A, 0, 0));
        due(x.holds(code(IS, A, 0, 0), 0), 1);
        due(x.holds(code(IS, A, 0, 0), 448), 0);
        due(x.holds(code(IS, A, 0, 7), 448), 1);
        due(x.count(12), 1);
    }

    private static void holdsRefusesWhatIsNoCode() {
        sentence("holds: BAD_VALUE if claim is no code of a claim, or state is out of range.");
        Asked x = new Asked();
        for (int bad : new int[] {LOWEST, -8, -1, 0, 6, 8, 141, 150, HIGHEST_CODE - 2, HIGHEST_CODE + 1, 1349, 1350, HIGHEST}) {
            due(x.holds(bad, 0), BAD_VALUE);
            due(x.holds(bad, 512), BAD_VALUE);
        }
    }

    private static void holdsRefusesStatesOutOfRange() {
        sentence("holds: state: 0 to 511");
        Asked x = new Asked();
        due(x.holds(TRUE, LOWEST), BAD_VALUE);
        due(x.holds(TRUE, -1), BAD_VALUE);
        due(x.holds(TRUE, 0), 1);
        due(x.holds(TRUE, 511), 1);
        due(x.holds(TRUE, 512), BAD_VALUE);
        due(x.holds(TRUE, HIGHEST), BAD_VALUE);
    }
}
