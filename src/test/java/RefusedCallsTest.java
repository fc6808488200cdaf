import java.util.ArrayList;
import java.util.List;
import java.util.function.Function;
import java.util.function.Supplier;
import java.util.function.ToLongFunction;

/** Each call that is refused: which error it returns, of several the first one that the document names, and that it changes nothing. */
public final class RefusedCallsTest extends Boundary {
    /** What an object tells of itself, and of what it does from then on. */
    private static final List<Function<Asked, String>> TELLERS = List.of(RefusedCallsTest::tell, RefusedCallsTest::tellByUndo, RefusedCallsTest::tellByRestore, RefusedCallsTest::tellByMore);

    private final Supplier<Asked> maker;
    private final List<String> want = new ArrayList<>();

    private RefusedCallsTest(Supplier<Asked> maker) {
        this.maker = maker;
        for (Function<Asked, String> teller : TELLERS) {
            want.add(teller.apply(maker.get()));
        }
    }

    public static void main(String[] args) {
        List<Supplier<Asked>> makers = List.of(Asked::new, RefusedCallsTest::used, RefusedCallsTest::full);
        for (Supplier<Asked> maker : makers) {
            RefusedCallsTest machine = new RefusedCallsTest(maker);
            machine.wrongNumbers();
            machine.noSuchClaims();
            machine.noSuchActions();
            machine.noSuchStepsAndCandidates();
            machine.wrongCharacters();
        }
        ofANewMachine();
        ofAFullMachine();
        ofAMachineWithoutAKernel();
        ofAMachineWithAKernel();
        end();
    }

    /** Some of everything: two steps, three candidates of which one stands and is no kernel, a run, a pad with a fault, slot 0. */
    private static Asked used() {
        Asked x = counter();
        x.step(code(AT_LEAST, A, 0, 1), COPY, B, B, 1);
        x.save(0);
        x.start(0, 1, 0);
        x.candidate(code(AT_MOST, A, 0, 6));
        x.candidate(code(IS, A, 0, 0));
        x.candidate(code(IS, B, 0, 0));
        x.run(3, 5);
        append(x, "ca=1;ca=");
        return x;
    }

    /** 8 steps, 40 candidates, 80 characters that end too early, a history of 6 states, and both slots. */
    private static Asked full() {
        Asked x = new Asked();
        x.save(1);
        for (int i = 0; i < 8; i++) {
            x.step(code(IS, C, 0, 7), COPY, i % 3, (i + i / 3) % 3, i < 4 ? 1 : -1);
        }
        x.step(TRUE, PUT, A, 0, 0);
        x.drop(0);
        x.step(code(IS, B, 0, 0), COPY, C, C, 1);
        for (int claim : fortyClaims()) {
            x.candidate(claim);
        }
        x.run(1, 3);
        x.strike();
        x.save(0);
        x.settle();
        x.run(1, 9);
        append(x, "k;".repeat(40));
        return x;
    }

    private static String tell(Asked x) {
        StringBuilder told = new StringBuilder(tellInShort(x)).append(x.fault()).append(' ');
        for (int i = 0; i < x.count(0); i++) {
            for (int what = 0; what <= 4; what++) {
                told.append(x.ofStep(i, what)).append(' ');
            }
        }
        for (int i = 0; i < x.count(1); i++) {
            for (int what = 0; what <= 4; what++) {
                told.append(x.ofCandidate(i, what)).append(' ');
            }
        }
        for (int i = 0; i < 512; i += i < 9 ? 1 : 31) {
            told.append(x.ofState(i)).append(' ');
        }
        return told.toString();
    }

    private static String tellInShort(Asked x) {
        StringBuilder told = new StringBuilder();
        for (int what = 0; what <= 12; what++) {
            told.append(x.count(what)).append(' ');
        }
        return told.append(x.needless()).append(' ').toString();
    }

    private static String tellByUndo(Asked x) {
        StringBuilder told = new StringBuilder();
        for (int i = 0; i < 7; i++) {
            told.append(x.undo()).append(": ").append(tellInShort(x));
        }
        return told.toString();
    }

    private static String tellByRestore(Asked x) {
        StringBuilder told = new StringBuilder();
        for (int slot = 0; slot <= 1; slot++) {
            told.append(x.restore(slot)).append(": ").append(tellInShort(x));
        }
        return told.toString();
    }

    private static String tellByMore(Asked x) {
        StringBuilder told = new StringBuilder();
        told.append(x.candidate(code(LESS, C, A, 2))).append(' ').append(x.step(TRUE, COPY, C, C, 1)).append(' ').append(tellInShort(x));
        told.append(x.put('1')).append(' ').append(x.carryOut()).append(' ').append(tellInShort(x));
        told.append(x.run(2, 9)).append(' ').append(x.guess(SAME)).append(' ').append(x.settle()).append(' ');
        return told.append(x.wipe()).append(' ').append(tellInShort(x)).toString();
    }

    private void refused(ToLongFunction<Asked> call, long error) {
        String last = "";
        for (int i = 0; i < TELLERS.size(); i++) {
            Asked x = maker.get();
            long answer = call.applyAsLong(x);
            last = Asked.lastCall();
            due(answer, error);
            dueSame("what is so after " + last, TELLERS.get(i).apply(x), want.get(i));
        }
    }

    private void wrongNumbers() {
        sentence("A call that returns an error changes nothing - a number out of its range.");
        for (int bad : new int[] {LOWEST, -1, 8, HIGHEST}) {
            refused(x -> x.start(bad, 0, 0), BAD_VALUE);
            refused(x -> x.start(7, bad, 7), BAD_VALUE);
            refused(x -> x.start(0, 0, bad), BAD_VALUE);
        }
        for (int bad : new int[] {LOWEST, -1, 2, HIGHEST}) {
            refused(x -> x.wrap(bad), BAD_VALUE);
            refused(x -> x.save(bad), BAD_VALUE);
            refused(x -> x.restore(bad), BAD_VALUE);
        }
        for (int bad : new int[] {LOWEST, -1, ALWAYS, EVEN + 1, HIGHEST}) {
            refused(x -> x.guess(bad), BAD_VALUE);
        }
        for (int bad : new int[] {LOWEST, 0, 100, HIGHEST}) {
            refused(x -> x.run(0, bad), BAD_VALUE);
            refused(x -> x.run(-1, bad), BAD_VALUE);
        }
        refused(x -> x.run(-1, 1), BAD_VALUE);
        refused(x -> x.run(LOWEST, 99), BAD_VALUE);
        for (int bad : new int[] {LOWEST, -1, 512, HIGHEST}) {
            refused(x -> x.holds(TRUE, bad), BAD_VALUE);
            refused(x -> x.ofState(bad), BAD_VALUE);
        }
        for (int bad : new int[] {LOWEST, -1, 13, HIGHEST}) {
            refused(x -> x.count(bad), BAD_VALUE);
        }
    }

    private void noSuchClaims() {
        sentence("A call that returns an error changes nothing - a code of no claim, or no such claim.");
        for (int bad : new int[] {LOWEST, -1, 0, 6, 8, 141, 150, 1299, 1350, HIGHEST}) {
            refused(x -> x.candidate(bad), BAD_VALUE);
            refused(x -> x.step(bad, PUT, A, 0, 0), BAD_VALUE);
            refused(x -> x.holds(bad, 0), BAD_VALUE);
            refused(x -> x.proves(bad), BAD_VALUE);
            refused(x -> x.witness(bad), BAD_VALUE);
            refused(x -> x.isTrue(bad), BAD_VALUE);
            refused(x -> x.core(bad), -2);
        }
        refused(x -> x.claim(-1, 0, 0, 0), BAD_VALUE);
        refused(x -> x.claim(10, 0, 1, 0), BAD_VALUE);
        refused(x -> x.claim(IS, 3, 0, 0), BAD_VALUE);
        refused(x -> x.claim(IS, A, 0, 8), BAD_VALUE);
        refused(x -> x.claim(SAME, A, A, 0), BAD_VALUE);
        refused(x -> x.claim(SUM, B, A, 0), BAD_VALUE);
        refused(x -> x.claim(EVEN, A, B, 2), BAD_VALUE);
    }

    private void noSuchActions() {
        sentence("A call that returns an error changes nothing - no action as told.");
        for (int bad : new int[] {LOWEST, -1, 3, HIGHEST}) {
            refused(x -> x.step(TRUE, bad, A, 0, 0), BAD_VALUE);
            refused(x -> x.step(TRUE, PUT, bad, 0, 0), BAD_VALUE);
            refused(x -> x.step(TRUE, COPY, A, bad, 0), BAD_VALUE);
            refused(x -> x.step(TRUE, SWAP, bad, A, 0), BAD_VALUE);
        }
        refused(x -> x.step(TRUE, PUT, A, 1, 0), BAD_VALUE);
        refused(x -> x.step(TRUE, PUT, A, 0, -1), BAD_VALUE);
        refused(x -> x.step(TRUE, PUT, A, 0, 8), BAD_VALUE);
        refused(x -> x.step(TRUE, COPY, A, A, -8), BAD_VALUE);
        refused(x -> x.step(TRUE, COPY, A, A, 8), BAD_VALUE);
        refused(x -> x.step(TRUE, SWAP, A, A, 0), BAD_VALUE);
        refused(x -> x.step(TRUE, SWAP, A, B, 1), BAD_VALUE);
    }

    private void noSuchStepsAndCandidates() {
        sentence("A call that returns an error changes nothing - no such step, no such candidate; NO_SUCH is named ahead of BAD_VALUE.");
        int steps = maker.get().count(0), candidates = maker.get().count(1);
        for (int bad : new int[] {LOWEST, -1, steps, 8, HIGHEST}) {
            refused(x -> x.drop(bad), NO_SUCH);
            refused(x -> x.ofStep(bad, 0), NO_SUCH);
            refused(x -> x.ofStep(bad, 7), NO_SUCH);
            refused(x -> x.leads(bad, 0), NO_SUCH);
            refused(x -> x.leads(bad, 512), NO_SUCH);
        }
        for (int bad : new int[] {LOWEST, -1, candidates, 40, HIGHEST}) {
            refused(x -> x.ofCandidate(bad, 0), NO_SUCH);
            refused(x -> x.ofCandidate(bad, 5), NO_SUCH);
        }
        if (steps > 0) {
            refused(x -> x.ofStep(steps - 1, 7), BAD_VALUE);
            refused(x -> x.ofStep(0, -1), BAD_VALUE);
            refused(x -> x.leads(steps - 1, 512), BAD_VALUE);
            refused(x -> x.leads(0, -1), BAD_VALUE);
        }
        if (candidates > 0) {
            refused(x -> x.ofCandidate(candidates - 1, 5), BAD_VALUE);
            refused(x -> x.ofCandidate(0, -1), BAD_VALUE);
        }
    }

    private void wrongCharacters() {
        sentence("A call that returns an error changes nothing - characters that put() does not take, and a text with a fault.");
        for (long bad : new long[] {0, 1, 32, 127, 128, 255, 256, 'k' * 256L, 'k' * 65536L + 'k', signs("kkkkkkkk") & ~255L, Long.MIN_VALUE, Long.MIN_VALUE + 'k', Long.MAX_VALUE, -1}) {
            refused(x -> x.put(bad), BAD_VALUE);
        }
        refused(x -> x.carryOut(), BAD_TEXT);
    }

    private static void ofANewMachine() {
        sentence("A call that returns an error changes nothing - no change to undo, nothing saved.");
        RefusedCallsTest machine = new RefusedCallsTest(Asked::new);
        machine.refused(x -> x.undo(), NOT_POSSIBLE);
        machine.refused(x -> x.restore(0), NOT_POSSIBLE);
        machine.refused(x -> x.restore(1), NOT_POSSIBLE);
    }

    private static void ofAFullMachine() {
        sentence("A call that returns an error changes nothing - all rows are full.");
        RefusedCallsTest machine = new RefusedCallsTest(RefusedCallsTest::full);
        machine.refused(x -> x.step(TRUE, PUT, A, 0, 0), TOO_MANY);
        machine.refused(x -> x.step(1298, SWAP, A, B, 0), TOO_MANY);
        machine.refused(x -> x.candidate(TRUE), TOO_MANY);
        machine.refused(x -> x.candidate(fortyClaims()[0]), TOO_MANY);
        machine.refused(x -> x.put('k'), TOO_MANY);
        machine.refused(x -> x.put(signs("kkkkkkkk")), TOO_MANY);
    }

    private static void ofAMachineWithoutAKernel() {
        sentence("A call that returns an error changes nothing - no kernel, a candidate that there is, slot 1 of which nothing was saved.");
        RefusedCallsTest machine = new RefusedCallsTest(RefusedCallsTest::used);
        machine.refused(x -> x.proves(TRUE), NOT_POSSIBLE);
        machine.refused(x -> x.core(TRUE), -5);
        machine.refused(x -> x.core(code(IS, A, 0, 7)), -5);
        machine.refused(x -> x.candidate(code(AT_MOST, A, 0, 6)), NOT_POSSIBLE);
        machine.refused(x -> x.candidate(code(IS, A, 0, 0)), NOT_POSSIBLE);
        machine.refused(x -> x.candidate(code(IS, B, 0, 0)), NOT_POSSIBLE);
        machine.refused(x -> x.restore(1), NOT_POSSIBLE);
    }

    private static void ofAMachineWithAKernel() {
        sentence("NONE (-6) is not an error; it is returned only if no error applies - and changes nothing either.");
        RefusedCallsTest machine = new RefusedCallsTest(() -> {
            Asked x = used();
            x.settle();
            return x;
        });
        machine.refused(x -> x.core(code(AT_MOST, A, 0, 6)), -6);
        machine.refused(x -> x.witness(TRUE), NONE);
        machine.refused(x -> x.leads(0, 511), NONE);
        machine.refused(x -> x.ofCandidate(1, 4), NONE);
        machine.refused(x -> x.leads(0, 512), BAD_VALUE);
        machine.refused(x -> x.leads(2, 511), NO_SUCH);
        machine.refused(x -> x.witness(0), BAD_VALUE);
    }
}
