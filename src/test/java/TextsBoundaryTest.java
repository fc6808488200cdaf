/** The boundaries of texts, and of promises 23 to 26: a test for each sentence that names one. */
public final class TextsBoundaryTest extends Boundary {
    /** Beginnings of texts, each with all characters that can stand behind it; a text may end where a ";" can stand. */
    private static final String[][] BEHIND = {
        {"", "cskr"}, {"k", ";"}, {"k;", "cskr"}, {"c*;", "cskr"}, {"r1*1;", "cskr"}, {"s*:a=1;", "cskr"},
        {"c", "*abc"}, {"c*", ";"}, {"ca", "=!<>&%"}, {"cb", "=!<>&%"}, {"cc", "=!<>&%"},
        {"ca=", "01234567abc"}, {"ca!", "01234567abc"}, {"ca<", "01234567abc"}, {"ca>", "01234567"}, {"ca&", "abc"}, {"ca%", "abc"},
        {"ca=0", ";"}, {"ca!7", ";"}, {"ca<1", ";"}, {"ca>7", ";"},
        {"ca=b", "+-;"}, {"ca!b", "+-;"}, {"ca<b", "+-;"}, {"ca=a", "+-;"}, {"ca=b+", "01234567"}, {"ca!c-", "01234567"}, {"ca<b+0", ";"}, {"ca=c-7", ";"},
        {"ca&b", "01234567"}, {"ca%c", "01234567"}, {"cb&a", "01234567"}, {"ca&b0", ";"}, {"ca%c7", ";"},
        {"s", "*abc"}, {"s*", ":"}, {"sa", "=!<>&%"}, {"sa=", "01234567abc"}, {"sa>", "01234567"}, {"sa&", "abc"}, {"sa=0", ":"}, {"sa>7", ":"},
        {"sa=b", "+-:"}, {"sa!b-", "01234567"}, {"sa<b-7", ":"}, {"sa&b", "01234567"}, {"sa%b1", ":"},
        {"s*:", "abc"}, {"s*:a", "=~"}, {"sa=0:c", "=~"}, {"s*:a=", "01234567abc"}, {"s*:a~", "abc"}, {"s*:a=0", ";"}, {"s*:a=7", ";"},
        {"s*:a=b", "+-;"}, {"s*:a=a", "+-;"}, {"s*:a=b+", "01234567"}, {"s*:a=b-", "01234567"}, {"s*:a=b+7", ";"}, {"s*:a=b-0", ";"}, {"s*:a~b", ";"}, {"s*:a~a", ";"},
        {"r", "0123456789"}, {"r0", "*"}, {"r1", "0123456789*"}, {"r9", "0123456789*"}, {"r10", "0123456789*"}, {"r99", "0123456789*"}, {"r100", "*"}, {"r999", "*"},
        {"r0*", "0123456789"}, {"r999*", "0123456789"}, {"r0*0", ";"}, {"r0*1", "0123456789;"}, {"r0*9", "0123456789;"}, {"r0*10", "0123456789;"},
        {"r0*99", "0123456789;"}, {"r0*100", ";"}, {"r0*999", ";"}};

    public static void main(String[] args) {
        eachCharacterAtEachPlace();
        aTextMayEndOnlyBehindAnOrder();
        thePadHoldsEighty();
        numbersAreAtMost999();
        numbersHaveNoLeadingZeros();
        varsAreAToC();
        digitsAreZeroToSeven();
        offsetsMayBeLeftOut();
        theFirstFaultCounts();
        whetherAClaimIsOneDoesNotMatter();
        anEmptyTextEndsTooEarly();
        aTextEndsTooEarlyAtItsLength();
        putIsOneToEightCharacters();
        putInTheRightOrder();
        putTakes33To126();
        putRefusesWhatIsAboveAZero();
        putAnswersTheLength();
        putRefusesTheEightyFirst();
        putNamesBadValueFirst();
        putIsNoChange();
        wipeAnswersTheLength();
        wipeIsNoChange();
        faultAnswersNone();
        faultOfAFullPad();
        faultChangesNothing();
        carryOutTellsAFault();
        carryOutOfAnEmptyPad();
        carryOutStopsAtTheFirstError();
        carryOutOfNoClaim();
        carryOutOfNoAction();
        carryOutOfNoRun();
        carryOutOfARunAtItsEdges();
        carryOutOfTheForms();
        carryOutOfTheActions();
        anOrderTellsAllOfItself();
        carryOutOfTheNinthStep();
        carryOutOfTheFortyFirstCandidate();
        carryOutOfFortyOrders();
        carryOutEmptiesThePad();
        carryOutIsOneChange();
        carryOutOfNoneIsAChange();
        settleOfATextIsNoError();
        end();
    }

    private static Asked padOf(String text) {
        Asked x = new Asked();
        append(x, text);
        return x;
    }

    private static void eachCharacterAtEachPlace() {
        sentence("The fault is the index of the first character that cannot stand at its place when the text is read from left to right.");
        for (String[] row : BEHIND) {
            Asked x = new Asked();
            for (char sign = 33; sign <= 126; sign++) {
                write(x, row[0] + sign);
                int fault = x.fault();
                if (row[1].indexOf(sign) < 0) {
                    due("the fault of " + row[0] + sign, fault, row[0].length());
                } else {
                    // it can stand there: there is no fault, or the text ends too early
                    due("the fault of " + row[0] + sign, fault == NONE ? row[0].length() + 1 : fault, row[0].length() + 1);
                }
            }
        }
    }

    private static void aTextMayEndOnlyBehindAnOrder() {
        sentence("If there is no fault and the text ends too early (also if it is empty), it is the length of the text.");
        for (String[] row : BEHIND) {
            Asked x = padOf(row[0]);
            int fault = x.fault();
            boolean mayEnd = row[1].indexOf(';') >= 0;
            due("the fault of " + row[0], fault, mayEnd ? NONE : row[0].length());
        }
    }

    /** A text without a fault, of 80 characters. */
    private static String eighty() {
        StringBuilder text = new StringBuilder("r1*1");
        while (text.length() < 80) {
            text.append(";k");
        }
        return text.toString();
    }

    private static void thePadHoldsEighty() {
        sentence("The pad is a text of at most 80 characters.");
        Asked x = padOf(eighty().substring(0, 79));
        due(x.count(11), 79);
        due(x.put('k'), 80);
        due(x.put('k'), TOO_MANY);
        due(x.count(11), 80);
        due(x.fault(), NONE);
        due(x.carryOut(), 39);
        due(x.put('k'), 1);
    }

    private static void dueFault(String text, int fault) {
        Asked x = padOf(text);
        due("the fault of " + text, x.fault(), fault);
    }

    private static void numbersAreAtMost999() {
        sentence("A number is 0 to 999 .. (also of a digit by which a number would be above 999)");
        dueFault("r0*0", NONE);
        dueFault("r999*999", NONE);
        dueFault("r1000*1", 4);
        dueFault("r9990*1", 4);
        dueFault("r1*1000", 6);
        dueFault("r1*9999", 6);
        dueFault("r999*1000", 8);
        dueFault("k;r1000", 6);
        dueFault("r1*100;r1*1000;k", 13);
    }

    private static void numbersHaveNoLeadingZeros() {
        sentence("A number is 0 to 999, without leading zeros.");
        dueFault("r0*1", NONE);
        dueFault("r00*1", 2);
        dueFault("r01*1", 2);
        dueFault("r1*00", 4);
        dueFault("r1*01", 4);
        dueFault("r1*0", NONE);
        dueFault("r10*10", NONE);
        dueFault("r100*100", NONE);
    }

    private static void varsAreAToC() {
        sentence("A var is a, b or c.");
        dueFault("ca=a", NONE);
        dueFault("cc=c", NONE);
        dueFault("c`=a", 1);
        dueFault("cd=a", 1);
        dueFault("ca=`", 3);
        dueFault("ca=d", 3);
        dueFault("cA=1", 1);
        dueFault("s*:d=1", 3);
        dueFault("s*:a=d", 5);
        dueFault("s*:a~d", 5);
        dueFault("ca&d1", 3);
    }

    private static void digitsAreZeroToSeven() {
        sentence("A digit 0 to 7.");
        for (String text : new String[] {"ca=", "ca!", "ca<", "ca>", "ca&b", "ca%b", "ca=b+", "ca=b-", "s*:a=", "s*:a=b+", "s*:a=b-"}) {
            dueFault(text + "0", NONE);
            dueFault(text + "7", NONE);
            dueFault(text + "/", text.length());
            dueFault(text + "8", text.length());
            dueFault(text + "9", text.length());
            dueFault(text + "00", text.length() + 1);
            dueFault(text + "10", text.length() + 1);
        }
    }

    private static void offsetsMayBeLeftOut() {
        sentence("k being the offset (0 if it is left out)");
        Asked x = new Asked();
        due(carryOut(x, "ca=b;ca!b;ca<b;s*:a=b;s*:a=a"), 5);
        due(x.ofCandidate(0, 0), code(SAME, A, B, 0));
        due(x.ofCandidate(1, 0), code(UNLIKE, A, B, 0));
        due(x.ofCandidate(2, 0), code(LESS, A, B, 0));
        due(x.ofStep(0, 4), 7);
        due(x.ofStep(1, 4), 7);
        // told or left out, it is the same claim
        due(carryOut(x, "ca=b+0"), 0);
        due(carryOut(x, "ca=b-0"), 0);
        due(carryOut(x, "ca=b+7;ca=b-7;s*:a=b+7;s*:a=b-7"), 4);
        due(x.ofCandidate(3, 0), code(SAME, A, B, 7));
        due(x.ofCandidate(4, 0), code(SAME, A, B, -7));
        due(x.ofStep(2, 4), 14);
        due(x.ofStep(3, 4), 0);
    }

    private static void theFirstFaultCounts() {
        sentence("The fault is the index of the first character that cannot stand at its place - whatever comes behind it.");
        dueFault("x", 0);
        dueFault("xk", 0);
        dueFault("x;k;c", 0);
        dueFault("kx", 1);
        dueFault("k;xx", 2);
        dueFault("ca=8;ca=9", 3);
        dueFault("ca=1;ca=9", 8);
        dueFault(";", 0);
        dueFault(";k", 0);
        dueFault("k;;k", 2);
    }

    private static void whetherAClaimIsOneDoesNotMatter() {
        sentence("whether a claim or an action is one (its var, its k) does not matter for that");
        for (String text : new String[] {"ca=a", "cb!b-7", "cc<c+7", "ca&a0", "cb&a7", "cc%a0", "ca%b2", "ca%b7", "sa=a:b=1", "s*:a~a", "s*:c~c", "r0*0", "r0*100", "r999*999"}) {
            dueFault(text, NONE);
            dueFault(text + ";", text.length() + 1);
        }
    }

    private static void anEmptyTextEndsTooEarly() {
        sentence("the text ends too early (also if it is empty)");
        Asked x = new Asked();
        due(x.fault(), 0);
        x.put('k');
        due(x.fault(), NONE);
        x.wipe();
        due(x.fault(), 0);
        x.put('k');
        x.carryOut();
        due(x.fault(), 0);
    }

    private static void aTextEndsTooEarlyAtItsLength() {
        sentence("If there is no fault and the text ends too early .., it is the length of the text - as far as each order goes.");
        // each text with the lengths at which it may end: an offset may be left out, and a number may be shorter
        Object[][] texts = {{"c*", 2, 2}, {"ca=1", 4, 4}, {"ca!b+7", 4, 6}, {"cb&c0", 5, 5}, {"s*:a=1", 6, 6}, {"sa<b-7:c=a+7", 10, 12}, {"sa%b1:c~b", 9, 9},
            {"r9*99", 4, 5}, {"r999*0", 6, 6}, {"k", 1, 1}};
        for (Object[] t : texts) {
            String text = (String) t[0];
            for (String ahead : new String[] {"", "k;", "ca=b;", "r999*999;", "s*:a=b;"}) {
                for (int length = 0; length <= text.length(); length++) {
                    boolean mayEnd = length == (Integer) t[1] || length == (Integer) t[2];
                    dueFault(ahead + text.substring(0, length), mayEnd ? NONE : ahead.length() + length);
                }
            }
        }
    }

    private static void putIsOneToEightCharacters() {
        sentence("put: characters: 1 to 8 characters .. BAD_VALUE if there is no character.");
        Asked x = new Asked();
        due(x.put(0), BAD_VALUE);
        due(x.count(11), 0);
        for (int many = 1; many <= 8; many++) {
            x.wipe();
            due(x.put(signs("k;k;k;k;".substring(0, many))), many);
            due(x.fault(), many % 2 == 0 ? many : NONE);
        }
    }

    private static void putInTheRightOrder() {
        sentence("put: its lowest 8 bits are the last character, the next 8 bits the one before, and so on");
        Asked x = new Asked();
        due(x.put(((((long) 'c' << 8 | 'a') << 8 | '=') << 8) | 'b'), 4);
        due(x.put('+' * 256L + '7'), 6);
        due(x.fault(), NONE);
        due(x.carryOut(), 1);
        due(x.ofCandidate(0, 0), code(SAME, A, B, 7));
        due(x.put(signs("ca=b-7;k")), 8);
        due(x.carryOut(), 2);
        due(x.ofCandidate(1, 0), code(SAME, A, B, -7));
    }

    private static void putTakes33To126() {
        sentence("put: BAD_VALUE if .. a code is not 33 to 126.");
        for (int many = 1; many <= 8; many++) {
            for (int place = 0; place < many; place++) {
                Asked x = new Asked();
                long others = signs("kkkkkkkk".substring(0, many)) & ~(255L << (8 * place));
                for (long sign : new long[] {1, 31, 32, 127, 128, 160, 255}) {
                    due(x.put(others | sign << (8 * place)), BAD_VALUE);
                }
                due(x.count(11), 0);
                due(x.put(others | 33L << (8 * place)), many);
                due(x.put(others | 126L << (8 * place)), 2 * many);
            }
        }
    }

    private static void putRefusesWhatIsAboveAZero() {
        sentence("put: 8 bits that are 0 mean that there are no more characters, and everything above them has to be 0, too.");
        Asked x = new Asked();
        for (int zero = 0; zero <= 6; zero++) {
            long below = zero == 0 ? 0 : signs("kkkkkkk".substring(0, zero));
            for (int bit = 8 * zero + 8; bit <= 63; bit++) {
                due(x.put(below | 1L << bit), BAD_VALUE);
            }
        }
        due(x.put(signs("kkkkkkkk") & ~255L), BAD_VALUE);
        due(x.put(signs("kkkkkkkk") & ~(255L << 48)), BAD_VALUE);
        due(x.put(signs("kkkkkkkk") & ~(255L << 56)), 7);
        due(x.put(Long.MIN_VALUE), BAD_VALUE);
        due(x.put(Long.MAX_VALUE), BAD_VALUE);
        due(x.put(-1), BAD_VALUE);
        due(x.count(11), 7);
    }

    private static void putAnswersTheLength() {
        sentence("put: Returns the length of the pad then.");
        Asked x = new Asked();
        int length = 0;
        for (int many = 1; many <= 8; many++) {
            length += many;
            due(x.put(signs("kkkkkkkk".substring(0, many))), length);
            due(x.count(11), length);
        }
    }

    private static void putRefusesTheEightyFirst() {
        sentence("put: TOO_MANY if the pad would be longer than 80.");
        for (int many = 1; many <= 8; many++) {
            String some = "kkkkkkkk".substring(0, many);
            Asked x = new Asked();
            for (int i = 0; i < 80 - many; i++) {
                x.put('k');
            }
            due(x.put(signs(some)), 80);
            due(x.put(signs(some)), TOO_MANY);
            due(x.put('k'), TOO_MANY);
            x.wipe();
            for (int i = 0; i < 81 - many; i++) {
                x.put('k');
            }
            due(x.put(signs(some)), TOO_MANY);
            due(x.count(11), 81 - many);
        }
    }

    private static void putNamesBadValueFirst() {
        sentence("put: BAD_VALUE ..; TOO_MANY .. - in this order.");
        Asked x = padOf(eighty());
        due(x.put(0), BAD_VALUE);
        due(x.put(32), BAD_VALUE);
        due(x.put(127), BAD_VALUE);
        due(x.put('k' * 256L), BAD_VALUE);
        due(x.put(-1), BAD_VALUE);
        due(x.put('k'), TOO_MANY);
        due(x.put(signs("kkkkkkkk")), TOO_MANY);
    }

    private static void putIsNoChange() {
        sentence("each method that is a change .. records the state before it - put is none.");
        Asked x = new Asked();
        x.put('k');
        due(x.count(12), 0);
        due(x.undo(), NOT_POSSIBLE);
        due(x.count(11), 1);
    }

    private static void wipeAnswersTheLength() {
        sentence("wipe: Empties the pad, and returns the length that it had - 0 to 80.");
        Asked x = new Asked();
        due(x.wipe(), 0);
        x.put('k');
        due(x.wipe(), 1);
        due(x.wipe(), 0);
        append(x, eighty());
        due(x.wipe(), 80);
        due(x.count(11), 0);
        due(x.wipe(), 0);
        due(x.put('c'), 1);
        due(x.fault(), 1);
    }

    private static void wipeIsNoChange() {
        sentence("each method that is a change .. records the state before it - wipe is none.");
        Asked x = padOf("k");
        x.wipe();
        due(x.count(12), 0);
        due(x.undo(), NOT_POSSIBLE);
        due(x.count(11), 0);
    }

    private static void faultAnswersNone() {
        sentence("fault: Returns the fault of the pad, NONE if there is none.");
        Asked x = padOf("k");
        due(x.fault(), NONE);
        x.put(';');
        due(x.fault(), 2);
        x.put('k');
        due(x.fault(), NONE);
        x.put('k');
        due(x.fault(), 3);
        x.put(';');
        due(x.fault(), 3);
    }

    private static void faultOfAFullPad() {
        sentence("fault: .. of 80 characters: none, at the last one, or the end.");
        dueFault(eighty(), NONE);
        dueFault(eighty().substring(0, 79) + "x", 79);
        dueFault(eighty().substring(0, 79) + "c", 80);
        dueFault(eighty().substring(0, 79) + ";", 79);
        dueFault(eighty().substring(0, 78), NONE);
        dueFault(eighty().substring(0, 79), 79);
        dueFault(eighty().substring(2) + ";k", 0);
        dueFault("k;".repeat(40), 80);
        dueFault("k;".repeat(39) + "k", NONE);
        dueFault("k;".repeat(38) + "c*;c", 80);
        dueFault("k;".repeat(37) + "r1*999", NONE);
        dueFault("k;".repeat(37) + "s*:a=b", NONE);
        dueFault("k;".repeat(37) + "s*:a=8", 79);
    }

    private static void faultChangesNothing() {
        sentence("fault: Returns the fault of the pad - which stays.");
        Asked x = padOf("ca=8");
        for (int i = 0; i < 3; i++) {
            due(x.fault(), 3);
            due(x.count(11), 4);
        }
        due(x.count(12), 0);
        due(x.count(1), 0);
    }

    private static void carryOutTellsAFault() {
        sentence("carryOut: BAD_TEXT if the pad has a fault (then it stays).");
        for (String text : new String[] {"c*;x", "c*;", "c*;ca", "c*;ca=8", "x", "c*;r1*1000", "c*x"}) {
            Asked x = padOf(text);
            due(x.carryOut(), BAD_TEXT);
            due(x.count(11), text.length());
            due(x.count(1), 0);
            due(x.count(12), 0);
            due(x.carryOut(), BAD_TEXT);
        }
        Asked x = padOf("c*;ca=");
        due(x.carryOut(), BAD_TEXT);
        x.put('1');
        due(x.carryOut(), 2);
        due(x.count(1), 2);
    }

    private static void carryOutOfAnEmptyPad() {
        sentence("carryOut: BAD_TEXT if the pad has a fault - also if it is empty.");
        Asked x = new Asked();
        due(x.carryOut(), BAD_TEXT);
        due(x.count(12), 0);
        x.put('k');
        due(x.carryOut(), 1);
        due(x.carryOut(), BAD_TEXT);
        due(x.count(12), 1);
    }

    private static void carryOutStopsAtTheFirstError() {
        sentence("carryOut: Carries the orders of the pad out, one after the other, up to the first one that returns an error.");
        String[] good = {"c*", "ca=0", "cb=0", "cc=0"};
        for (int error = 0; error <= 4; error++) {
            StringBuilder text = new StringBuilder();
            for (int i = 0; i < 4; i++) {
                text.append(i == 0 ? "" : ";").append(i == error ? "ca=a;" : "").append(good[i]);
            }
            text.append(error == 4 ? ";ca=a" : "");
            Asked x = new Asked();
            due(carryOut(x, text.toString()), error);
            due(x.count(1), error);
            due(x.count(11), 0);
            due(x.count(12), 1);
        }
        Asked x = new Asked();
        due(carryOut(x, "c*;c*;ca=0"), 1);
        due(x.count(1), 1);
    }

    private static void carryOutOfNoClaim() {
        sentence("(also because it tells no claim or action) - no claim.");
        String[] none = {"a=a", "a!a+1", "b<b-7", "c=c", "a&a0", "b&a0", "c&c7", "c&b1", "a%a0", "b%a1", "c%a0", "a%b2", "a%c7", "b%c3"};
        for (String claim : none) {
            Asked x = new Asked();
            due(carryOut(x, "c" + claim + ";c*"), 0);
            due(carryOut(x, "s" + claim + ":a=1;c*"), 0);
            due(x.count(0), 0);
            due(x.count(1), 0);
            due(x.count(11), 0);
            due(x.count(12), 2);
        }
        String[] some = {"a=b", "a!c+1", "b<c-7", "c=a+7", "a&b0", "a&c7", "b&c1", "a%b0", "a%c1", "b%c0"};
        for (String claim : some) {
            Asked x = new Asked();
            due(carryOut(x, "c" + claim + ";s" + claim + ":a=1;c*"), 3);
            due(x.count(0), 1);
            due(x.count(1), 2);
        }
    }

    private static void carryOutOfNoAction() {
        sentence("(also because it tells no claim or action) - no action.");
        for (String action : new String[] {"a~a", "b~b", "c~c"}) {
            Asked x = new Asked();
            due(carryOut(x, "s*:" + action + ";c*"), 0);
            due(x.count(0), 0);
            due(x.count(1), 0);
            due(x.count(12), 1);
        }
        for (String action : new String[] {"a~b", "c~a", "a=a", "b=b-7", "c=0", "c=7"}) {
            Asked x = new Asked();
            due(carryOut(x, "s*:" + action + ";c*"), 2);
            due(x.count(0), 1);
        }
    }

    private static void carryOutOfNoRun() {
        sentence("\"r\": run() with this seed and length - a length that is not 1 to 99 is an error.");
        for (String run : new String[] {"r0*0", "r1*100", "r999*101", "r0*999"}) {
            Asked x = new Asked();
            due(carryOut(x, run + ";c*"), 0);
            due(x.count(4), 0);
            due(x.count(1), 0);
        }
    }

    private static void carryOutOfARunAtItsEdges() {
        sentence("\"r\": run() with this seed and length - seeds 0 to 999, lengths 1 to 99.");
        for (int seed : new int[] {0, 1, 9, 10, 99, 100, 998, 999}) {
            for (int length : new int[] {1, 9, 10, 99}) {
                Asked x = new Asked();
                Asked y = new Asked();
                for (int v = A; v <= C; v++) {
                    x.step(TRUE, COPY, v, v, 1);
                    y.step(TRUE, COPY, v, v, 1);
                }
                due(carryOut(x, "r" + seed + "*" + length), 1);
                int seen = y.run(seed, length);
                due(x.count(3), seen + 1);
                due(x.count(4), 1);
                for (int s = 0; s < 400; s++) {
                    due(x.ofState(s), y.ofState(s));
                }
            }
        }
    }

    private static void carryOutOfTheForms() {
        sentence("\"*\" is ALWAYS; with a digit, \"=\", \"!\", \"<\" and \">\" are IS, NOT, AT_MOST and AT_LEAST; with a var, .. SAME, UNLIKE and LESS; \"&\" is SUM, \"%\" is EVEN.");
        for (int form = ALWAYS; form <= EVEN; form++) {
            for (int v = A; v <= C; v++) {
                for (int w = A; w <= C; w++) {
                    for (int k : new int[] {-7, -1, 0, 1, 7}) {
                        Asked x = new Asked();
                        if (isClaim(form, v, w, k)) {
                            due(carryOut(x, "c" + textOf(form, v, w, k) + ";s" + textOf(form, v, w, k) + ":a=1"), 2);
                            due(x.ofCandidate(0, 0), code(form, v, w, k));
                            due(x.ofStep(0, 0), code(form, v, w, k));
                        }
                    }
                }
            }
        }
    }

    private static String textOf(int form, int v, int w, int k) {
        String signs = "*=!<>=!<&%";
        char x = (char) ('a' + v), y = (char) ('a' + w), sign = signs.charAt(form);
        switch (form) {
            case ALWAYS: return "*";
            case SAME: case UNLIKE: case LESS: return "" + x + sign + y + (k == 0 ? "" : k < 0 ? "-" + -k : "+" + k);
            case SUM: case EVEN: return "" + x + sign + y + k;
            default: return "" + x + sign + k;
        }
    }

    private static void carryOutOfTheActions() {
        sentence("action = var \"=\" digit | var \"=\" var offset | var \"~\" var; an action with \"~\" is SWAP.");
        Object[][] actions = {{"a=0", PUT, A, 0, 0}, {"c=7", PUT, C, 0, 7}, {"a=a", COPY, A, A, 0}, {"b=c-7", COPY, B, C, -7}, {"c=b+7", COPY, C, B, 7}, {"b=a+0", COPY, B, A, 0},
            {"a~b", SWAP, A, B, 0}, {"b~a", SWAP, B, A, 0}, {"c~b", SWAP, C, B, 0}, {"a~c", SWAP, A, C, 0}};
        for (Object[] a : actions) {
            Asked x = new Asked();
            due(carryOut(x, "s*:" + a[0]), 1);
            for (int what = 1; what <= 3; what++) {
                due(x.ofStep(0, what), (Integer) a[what]);
            }
            due(x.ofStep(0, 4), (Integer) a[4] + 7);
        }
    }

    private static void anOrderTellsAllOfItself() {
        sentence("The pad is a text .., a row of orders - an order tells nothing of the one behind it.");
        Asked x = new Asked();
        due(carryOut(x, "s*:a=b-3;s*:a~b;s*:c=2;s*:b=c;s*:b~c;s*:a=0"), 6);
        int[][] steps = {{COPY, A, B, 4}, {SWAP, A, B, 7}, {PUT, C, 0, 9}, {COPY, B, C, 7}, {SWAP, B, C, 7}, {PUT, A, 0, 7}};
        for (int i = 0; i < steps.length; i++) {
            for (int what = 1; what <= 4; what++) {
                due(x.ofStep(i, what), steps[i][what - 1]);
            }
        }
        due(carryOut(x, "ca<b-3;ca<b;ca<2;c*;ca%c1;cb=2;cc=a"), 7);
        int[] claims = {code(LESS, A, B, -3), code(LESS, A, B, 0), code(AT_MOST, A, 0, 2), TRUE, code(EVEN, A, C, 1), code(IS, B, 0, 2), code(SAME, C, A, 0)};
        for (int i = 0; i < claims.length; i++) {
            due(x.ofCandidate(i, 0), claims[i]);
        }
    }

    private static void carryOutOfTheNinthStep() {
        sentence("carryOut: up to the first one that returns an error - the ninth step.");
        Asked x = new Asked();
        due(carryOut(x, "s*:a=0;s*:a=1;s*:a=2;s*:a=3;s*:a=4;s*:a=5;s*:a=6;s*:a=7"), 8);
        due(x.count(0), 8);
        due(carryOut(x, "c*;s*:b=0;ca=0"), 1);
        due(x.count(0), 8);
        due(x.count(1), 1);
        x.drop(0);
        due(carryOut(x, "s*:b=0;s*:b=1;ca=0"), 1);
        due(x.count(0), 8);
        due(x.leads(7, 511), state(7, 0, 7));
        x = new Asked();
        due(carryOut(x, "s*:a=0;s*:a=1;s*:a=2;s*:a=3;s*:a=4;s*:a=5;s*:a=6;s*:a=7;s*:b=0;k"), 8);
        due(x.count(0), 8);
    }

    private static void carryOutOfTheFortyFirstCandidate() {
        sentence("carryOut: up to the first one that returns an error - the forty-first candidate.");
        Asked x = withCandidates(38);
        due(carryOut(x, "c*;ca>0;cb>0;k"), 2);
        due(x.count(1), 40);
        due(x.ofCandidate(39, 0), code(AT_LEAST, A, 0, 0));
        due(carryOut(x, "k;c*;k"), 1);
        x.undo();
        x.undo();
        due(x.count(1), 38);
    }

    private static void carryOutOfFortyOrders() {
        sentence("carryOut: Returns how many orders were carried out - up to 40 of them.");
        Asked x = new Asked();
        due(carryOut(x, "k;".repeat(39) + "k"), 40);
        due(x.count(12), 1);
        due(carryOut(x, "k;".repeat(38) + "c*"), 39);
        due(x.count(1), 1);
        due(carryOut(x, "r0*1;".repeat(15) + "r0*99"), 16);
        due(x.count(4), 16);
        due(carryOut(x, "k;".repeat(37) + "r0*100"), 37);
        due(x.count(4), 16);
    }

    private static void carryOutEmptiesThePad() {
        sentence("carryOut: .. and empties the pad - also if it stopped at an error.");
        for (String text : new String[] {"k", "ca=a", "c*;ca=a;c*", eighty()}) {
            Asked x = padOf(text);
            x.carryOut();
            due(x.count(11), 0);
            due(x.fault(), 0);
            due(x.put(signs("ca=0")), 4);
            due(x.carryOut(), 1);
        }
    }

    private static void carryOutIsOneChange() {
        sentence("carryOut: This is a change (one, with all of them ..).");
        Asked x = new Asked();
        x.start(1, 2, 3);
        due(carryOut(x, "s*:a=a+1;ca<6;cb=2;r5*2;k;ca=a;c*"), 5);
        due(x.count(12), 2);
        due(x.count(0), 1);
        due(x.undo(), 1);
        due(x.count(0), 0);
        due(x.count(1), 0);
        due(x.count(4), 0);
        due(x.count(5), 0);
        due(x.count(6), state(1, 2, 3));
        due(x.count(11), 0);
        due(x.undo(), 0);
        due(x.count(6), 0);
    }

    private static void carryOutOfNoneIsAChange() {
        sentence("carryOut: This is a change (..; also if none is carried out).");
        Asked x = new Asked();
        due(carryOut(x, "ca=a"), 0);
        due(x.count(12), 1);
        due(carryOut(x, "r0*0;k"), 0);
        due(x.count(12), 2);
        for (int i = 0; i < 6; i++) {
            due(carryOut(x, "ca=a"), 0);
        }
        due(x.count(12), 6);
        due(x.undo(), 5);
    }

    private static void settleOfATextIsNoError() {
        sentence("\"k\": settle() - which returns no error, whatever it strikes out.");
        Asked x = new Asked();
        due(carryOut(x, "k;k;s*:a=a+1;k;ca<6;k;k"), 7);
        due(x.count(5), 1);
        due(x.ofCandidate(0, 1), BY_STEP);
        due(carryOut(x, "k"), 1);
        due(x.count(5), 1);
    }
}
