/**
 * An object of the class under test that counts its calls: a test that uses one for more than 512 of
 * them is wrong, as nothing is promised then. It keeps the call that was made last, for a report.
 */
final class Asked {
    private static final int MOST_CALLS = 512;

    private static String lastName = "";
    private static long[] lastArguments = {};

    private final TruthKernel kernel = new TruthKernel();
    private int calls;

    /** The last call of any object, as it would be written. */
    static String lastCall() {
        StringBuilder text = new StringBuilder(lastName).append('(');
        for (int i = 0; i < lastArguments.length; i++) {
            text.append(i == 0 ? "" : ", ").append(lastArguments[i]);
        }
        return text.append(')').toString();
    }

    private void told(String name, long... arguments) {
        calls++;
        if (calls > MOST_CALLS) {
            throw new IllegalStateException("a test uses an object for more than " + MOST_CALLS + " calls");
        }
        lastName = name;
        lastArguments = arguments;
    }

    int start(int a, int b, int c) {
        told("start", a, b, c);
        return kernel.start(a, b, c);
    }

    int wrap(int on) {
        told("wrap", on);
        return kernel.wrap(on);
    }

    int step(int guard, int how, int x, int y, int k) {
        told("step", guard, how, x, y, k);
        return kernel.step(guard, how, x, y, k);
    }

    int drop(int step) {
        told("drop", step);
        return kernel.drop(step);
    }

    int candidate(int claim) {
        told("candidate", claim);
        return kernel.candidate(claim);
    }

    int guess(int form) {
        told("guess", form);
        return kernel.guess(form);
    }

    int run(int seed, int length) {
        told("run", seed, length);
        return kernel.run(seed, length);
    }

    int strike() {
        told("strike");
        return kernel.strike();
    }

    int settle() {
        told("settle");
        return kernel.settle();
    }

    int claim(int form, int x, int y, int k) {
        told("claim", form, x, y, k);
        return kernel.claim(form, x, y, k);
    }

    int holds(int claim, int state) {
        told("holds", claim, state);
        return kernel.holds(claim, state);
    }

    int ofStep(int step, int what) {
        told("ofStep", step, what);
        return kernel.ofStep(step, what);
    }

    int leads(int step, int state) {
        told("leads", step, state);
        return kernel.leads(step, state);
    }

    int ofCandidate(int candidate, int what) {
        told("ofCandidate", candidate, what);
        return kernel.ofCandidate(candidate, what);
    }

    int count(int what) {
        told("count", what);
        return kernel.count(what);
    }

    int ofState(int state) {
        told("ofState", state);
        return kernel.ofState(state);
    }

    int proves(int claim) {
        told("proves", claim);
        return kernel.proves(claim);
    }

    int witness(int claim) {
        told("witness", claim);
        return kernel.witness(claim);
    }

    int isTrue(int claim) {
        told("isTrue", claim);
        return kernel.isTrue(claim);
    }

    long needless() {
        told("needless");
        return kernel.needless();
    }

    long core(int claim) {
        told("core", claim);
        return kernel.core(claim);
    }

    int put(long characters) {
        told("put", characters);
        return kernel.put(characters);
    }

    int wipe() {
        told("wipe");
        return kernel.wipe();
    }

    int fault() {
        told("fault");
        return kernel.fault();
    }

    int carryOut() {
        told("carryOut");
        return kernel.carryOut();
    }

    int undo() {
        told("undo");
        return kernel.undo();
    }

    int save(int slot) {
        told("save", slot);
        return kernel.save(slot);
    }

    int restore(int slot) {
        told("restore", slot);
        return kernel.restore(slot);
    }
}
