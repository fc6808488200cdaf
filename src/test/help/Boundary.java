/**
 * What the boundary tests share: the words of the document, and a count of its sentences and of the
 * answers that are due. Each test names the sentence that it asks, and a wrong answer is told with it.
 */
abstract class Boundary {
    static final int NO_SUCH = -1, BAD_VALUE = -2, BAD_TEXT = -3, TOO_MANY = -4, NOT_POSSIBLE = -5, NONE = -6;
    static final int ALWAYS = 0, IS = 1, NOT = 2, AT_MOST = 3, AT_LEAST = 4, SAME = 5, UNLIKE = 6, LESS = 7, SUM = 8, EVEN = 9;
    static final int PUT = 0, COPY = 1, SWAP = 2;
    static final int A = 0, B = 1, C = 2;
    static final int STANDS = 0, BY_START = 1, BY_RUN = 2, BY_STEP = 3;
    /** The code of ALWAYS. */
    static final int TRUE = 7;
    static final int LOWEST = Integer.MIN_VALUE, HIGHEST = Integer.MAX_VALUE;
    static final long ALL_FORTY = (1L << 40) - 1;

    private static String sentence = "";
    private static int sentences;
    private static int answers;
    private static int wrong;

    static void sentence(String words) {
        sentence = words;
        sentences++;
    }

    /** What the last call answered, against what it should. */
    static void due(long got, long want) {
        due(null, got, want);
    }

    static void due(String what, long got, long want) {
        answers++;
        if (got != want) {
            report((what == null ? Asked.lastCall() : what) + " answered " + got + ", due is " + want);
        }
    }

    static void dueSame(String what, String got, String want) {
        answers++;
        if (!got.equals(want)) {
            report(what + ": " + got + ", due is " + want);
        }
    }

    private static void report(String fault) {
        wrong++;
        StackTraceElement[] way = new Throwable().getStackTrace();
        int at = 0;
        while (at + 1 < way.length && way[at].getClassName().equals("Boundary")) {
            at++;
        }
        System.out.println(way[at] + ": " + fault + "\n    \"" + sentence + "\"");
    }

    static void end() {
        System.out.println(sentences + " sentences, " + answers + " answers, " + wrong + " of them wrong");
        System.exit(wrong == 0 ? 0 : 1);
    }

    /** The code of a claim by the document's formula, also of a claim that is none. */
    static int code(int form, int x, int y, int k) {
        return 15 * (9 * form + 3 * x + y) + k + 7;
    }

    static int state(int a, int b, int c) {
        return 64 * a + 8 * b + c;
    }

    /** The number 0, 1 or 2 of a state. */
    static int numberOf(int state, int which) {
        return which == A ? state / 64 : which == B ? state / 8 % 8 : state % 8;
    }

    static int asNumber(boolean yes) {
        return yes ? 1 : 0;
    }

    /** Whether there is a claim of a form 0 to 9, of numbers 0 to 2 and of k -7 to 7. */
    static boolean isClaim(int form, int x, int y, int k) {
        switch (form) {
            case ALWAYS: return x == 0 && y == 0 && k == 0;
            case IS: case NOT: case AT_MOST: case AT_LEAST: return y == 0 && k >= 0;
            case SAME: case UNLIKE: case LESS: return x != y;
            case SUM: return x < y && k >= 0;
            default: return x < y && (k == 0 || k == 1);
        }
    }

    /** Whether a claim holds in a state, as the document tells the forms. */
    static boolean isMet(int form, int x, int y, int k, int state) {
        int vx = numberOf(state, x), vy = numberOf(state, y);
        switch (form) {
            case IS: return vx == k;
            case NOT: return vx != k;
            case AT_MOST: return vx <= k;
            case AT_LEAST: return vx >= k;
            case SAME: return vx == vy + k;
            case UNLIKE: return vx != vy + k;
            case LESS: return vx <= vy + k;
            case SUM: return vx + vy == k;
            case EVEN: return (vx + vy + k) % 2 == 0;
            default: return true;
        }
    }

    /** What put() is to be told for a text of up to eight characters. */
    static long signs(String text) {
        long number = 0;
        for (int i = 0; i < text.length(); i++) {
            number = 256 * number + text.charAt(i);
        }
        return number;
    }

    /** Appends a text to the pad, and answers what the last put() did. */
    static int append(Asked x, String text) {
        int answer = NONE;
        for (int i = 0; i < text.length(); i += 8) {
            answer = x.put(signs(text.substring(i, Math.min(text.length(), i + 8))));
        }
        return answer;
    }

    /** Empties the pad, and writes a text. */
    static void write(Asked x, String text) {
        x.wipe();
        append(x, text);
    }

    /** Writes a text, and carries it out. */
    static int carryOut(Asked x, String text) {
        write(x, text);
        return x.carryOut();
    }

    /** The step a = a + 1, which goes from 0 to 7. */
    static Asked counter() {
        Asked x = new Asked();
        x.step(TRUE, COPY, A, A, 1);
        return x;
    }

    /** What a candidate is, from what 1 on. */
    static void dueFate(Asked x, int candidate, int... fate) {
        for (int i = 0; i < 4; i++) {
            due(x.ofCandidate(candidate, i + 1), fate[i]);
        }
    }

    static void dueStanding(Asked x, int candidate) {
        dueFate(x, candidate, STANDS, NONE, NONE, NONE);
    }

    /** Forty claims that hold in the state 0 alone when they are taken together, each of them also without one of the others. */
    static int[] fortyClaims() {
        int[] claims = new int[40];
        int many = 0;
        for (int x = A; x <= C; x++) {
            claims[many++] = code(IS, x, 0, 0);
            for (int k = 0; k <= 7; k++) {
                claims[many++] = code(AT_MOST, x, 0, k);
            }
        }
        for (int k = 1; k <= 7; k++) {
            claims[many++] = code(NOT, A, 0, k);
        }
        for (int k = 1; k <= 6; k++) {
            claims[many++] = code(NOT, B, 0, k);
        }
        return claims;
    }

    /** An object with the first of the forty claims as its candidates. */
    static Asked withCandidates(int many) {
        Asked x = new Asked();
        for (int i = 0; i < many; i++) {
            x.candidate(fortyClaims()[i]);
        }
        return x;
    }

    /** All 512 states are seen: each number goes up and down, round and round. */
    static Asked allSeen() {
        Asked x = new Asked();
        x.wrap(1);
        for (int i = A; i <= C; i++) {
            x.step(TRUE, COPY, i, i, 1);
            x.step(TRUE, COPY, i, i, -1);
        }
        for (int i = 0; i < 150; i++) {
            x.run(7919 * i, 99);
        }
        return x;
    }
}
