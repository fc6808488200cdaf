import java.util.List;
import java.util.function.ToLongFunction;

/** The boundaries of promises 27 to 29: a test for each sentence that names one. */
public final class UndoBoundaryTest extends Boundary {
    /** The methods that are a change, on the machine of rich(). */
    private static final List<ToLongFunction<Asked>> CHANGES = List.of(
        x -> x.start(1, 2, 3), x -> x.wrap(1), x -> x.step(TRUE, SWAP, A, B, 0), x -> x.drop(0), x -> x.drop(2), x -> x.candidate(TRUE), x -> x.guess(AT_MOST),
        x -> x.run(5, 30), x -> x.strike(), x -> x.settle(), x -> carryOut(x, "ca<6;r7*9;k;s*:a=1;cb=b"), x -> x.restore(0), x -> x.restore(1));

    /** Those of them by which nothing is different then, on a new object with an empty machine in slot 0. */
    private static final List<ToLongFunction<Asked>> IDLE = List.of(
        x -> x.start(0, 0, 0), x -> x.wrap(0), x -> x.guess(SUM), x -> x.strike(), x -> x.settle(), x -> x.restore(0), x -> carryOut(x, "ca=a"), x -> carryOut(x, "k"));

    public static void main(String[] args) {
        undoOfEachChange();
        undoOfEachChangeOnceTheHistoryIsFull();
        undoWithoutAChange();
        undoAnswersHowManyAreLeft();
        sixStatesAreKept();
        theSeventhDropsTheOldest();
        changesThatChangeNothing();
        whatRecordsNothing();
        refusedCallsRecordNothing();
        undoIsNoChange();
        undoLeavesThePad();
        undoLeavesTheSlots();
        undoBringsBackTheWay();
        undoOfAnotherCandidate();
        undoOfAFullRow();
        changesAfterUndo();
        ordersRecordNothing();
        saveAnswersHowManyStand();
        saveIsInSlotsZeroAndOne();
        saveOverwrites();
        saveIsNoChange();
        saveLeavesOutThePad();
        restoreOfNothing();
        restoreIsOfSlotsZeroAndOne();
        restoreNamesBadValueFirst();
        restoreAnswersHowManyStand();
        restoreOfTheLastOne();
        theSlotKeepsIt();
        restoreIsAChange();
        restoreBringsBackEverything();
        restoreLeavesPadAndHistory();
        slotsAreOfOneObject();
        end();
    }

    /** What everything is except the pad, the history and the slots; some 140 calls. */
    private static String tell(Asked x) {
        StringBuilder told = new StringBuilder();
        for (int what = 0; what <= 10; what++) {
            told.append(x.count(what)).append(' ');
        }
        for (int i = 0; i < x.count(0); i++) {
            for (int what = 0; what <= 4; what++) {
                told.append(x.ofStep(i, what)).append(' ');
            }
        }
        for (int i = 0; i < Math.min(8, x.count(1)); i++) {
            for (int what = 0; what <= 4; what++) {
                told.append(x.ofCandidate(i, what)).append(' ');
            }
        }
        for (int i = 0; i < 512; i += i < 8 ? 1 : 12) {
            told.append(x.ofState(i)).append(' ');
        }
        return told.toString();
    }

    /** A machine with three steps, seven candidates of all fates, of which two stand, two runs, a round, something in each slot, and a full history. */
    private static Asked rich() {
        Asked x = new Asked();
        x.step(TRUE, COPY, A, A, 1);
        x.save(0);
        x.step(code(AT_LEAST, A, 0, 2), COPY, B, B, 1);
        x.start(0, 1, 0);
        x.candidate(code(IS, A, 0, 0));
        x.save(1);
        x.step(code(AT_LEAST, B, 0, 4), SWAP, B, C, 0);
        x.candidate(code(IS, B, 0, 0));
        x.candidate(code(LESS, C, A, 3));
        x.candidate(code(SUM, A, C, 7));
        x.candidate(code(AT_MOST, A, 0, 6));
        x.run(0, 4);
        x.run(9, 4);
        x.strike();
        x.candidate(code(NOT, A, 0, 7));
        x.candidate(code(AT_LEAST, C, 0, 0));
        return x;
    }

    private static void undoOfEachChange() {
        sentence("undo: Undoes the latest change: everything except the pad, the slots and the history is as it was before it.");
        for (int i = 0; i < CHANGES.size(); i++) {
            Asked x = rich();
            String before = tell(x);
            due("whether change " + i + " is none of the errors", asNumber(CHANGES.get(i).applyAsLong(x) >= 0), 1);
            due(x.undo(), 5);
            dueSame("after the undo of change " + i, tell(x), before);
        }
    }

    private static void undoOfEachChangeOnceTheHistoryIsFull() {
        sentence("A history of at most 6 states is kept - by every kind of change.");
        for (int i = 0; i < CHANGES.size(); i++) {
            Asked x = rich();
            x.undo();
            x.undo();
            x.undo();
            due(x.count(12), 3);
            String before = tell(x);
            due("whether change " + i + " is none of the errors", asNumber(CHANGES.get(i).applyAsLong(x) >= 0), 1);
            due(x.count(12), 4);
            x.wrap(1);
            x.wrap(0);
            due(x.count(12), 6);
            x.start(7, 7, 7);
            due(x.count(12), 6);
            x.undo();
            x.undo();
            x.undo();
            due(x.undo(), 2);
            dueSame("after the undo of change " + i, tell(x), before);
        }
    }

    private static void undoWithoutAChange() {
        sentence("undo: NOT_POSSIBLE if there is none.");
        Asked x = new Asked();
        due(x.undo(), NOT_POSSIBLE);
        due(x.undo(), NOT_POSSIBLE);
        x.strike();
        due(x.undo(), 0);
        due(x.undo(), NOT_POSSIBLE);
        due(x.count(12), 0);
        due(x.count(3), 1);
    }

    private static void undoAnswersHowManyAreLeft() {
        sentence("undo: Returns how many changes can be undone then.");
        for (int changes = 1; changes <= 8; changes++) {
            Asked x = new Asked();
            for (int i = 0; i < changes; i++) {
                x.start(i, 0, 0);
            }
            for (int left = Math.min(6, changes) - 1; left >= 0; left--) {
                due(x.undo(), left);
                due(x.count(12), left);
            }
            due(x.undo(), NOT_POSSIBLE);
        }
    }

    private static void sixStatesAreKept() {
        sentence("A history of at most 6 states is kept - six changes can all be undone.");
        Asked x = new Asked();
        for (int i = 1; i <= 6; i++) {
            x.start(i, 0, 0);
            due(x.count(12), i);
        }
        for (int i = 5; i >= 0; i--) {
            due(x.undo(), i);
            due(x.count(6), 64 * i);
        }
        due(x.undo(), NOT_POSSIBLE);
        due(x.count(6), 0);
    }

    private static void theSeventhDropsTheOldest() {
        sentence("when one more is recorded, the oldest one is dropped.");
        for (int more = 1; more <= 9; more++) {
            Asked x = new Asked();
            for (int i = 1; i <= 6 + more; i++) {
                x.start(i % 8, i / 8, 0);
                due(x.count(12), Math.min(6, i));
            }
            for (int i = 5; i >= 0; i--) {
                due(x.undo(), i);
                due(x.count(6), state((i + more) % 8, (i + more) / 8, 0));
            }
            due(x.undo(), NOT_POSSIBLE);
            due(x.count(6), state(more % 8, more / 8, 0));
        }
    }

    private static void changesThatChangeNothing() {
        sentence("each method that is a change, and returns no error, records the state before it (also if nothing is different then)");
        for (int i = 0; i < IDLE.size(); i++) {
            Asked x = new Asked();
            x.save(0);
            x.guess(SUM);
            x.undo();
            due(x.count(12), 0);
            due("whether call " + i + " is none of the errors", asNumber(IDLE.get(i).applyAsLong(x) >= 0), 1);
            due(x.count(12), 1);
            due(x.undo(), 0);
        }
        Asked x = new Asked();
        x.guess(SUM);
        due(x.guess(SUM), 0);
        due(x.count(12), 2);
        due(x.run(0, 1), 0);
        due(x.count(12), 3);
    }

    private static void whatRecordsNothing() {
        sentence("each method that is a change .. records the state before it - the others record nothing.");
        Asked x = new Asked();
        x.start(1, 0, 0);
        x.save(0);
        x.save(1);
        x.put('k');
        x.fault();
        x.wipe();
        x.claim(IS, A, 0, 0);
        x.holds(TRUE, 0);
        x.ofStep(0, 0);
        x.leads(0, 0);
        x.ofCandidate(0, 0);
        x.count(0);
        x.ofState(0);
        x.proves(TRUE);
        x.witness(TRUE);
        x.isTrue(TRUE);
        x.needless();
        x.core(TRUE);
        due(x.count(12), 1);
        due(x.undo(), 0);
        due(x.count(6), 0);
    }

    private static void refusedCallsRecordNothing() {
        sentence("each method that is a change, and returns no error, records - one that returns an error does not.");
        Asked x = new Asked();
        x.start(1, 0, 0);
        due(x.start(8, 0, 0), BAD_VALUE);
        due(x.wrap(2), BAD_VALUE);
        due(x.step(0, PUT, A, 0, 0), BAD_VALUE);
        due(x.drop(0), NO_SUCH);
        due(x.candidate(0), BAD_VALUE);
        due(x.guess(0), BAD_VALUE);
        due(x.run(0, 0), BAD_VALUE);
        due(x.carryOut(), BAD_TEXT);
        due(x.restore(2), BAD_VALUE);
        due(x.restore(0), NOT_POSSIBLE);
        due(x.count(12), 1);
        due(x.undo(), 0);
        due(x.count(6), 0);
        // in a full history none of the six goes for them
        x = new Asked();
        for (int i = 1; i <= 6; i++) {
            x.start(i, 0, 0);
        }
        x.wrap(2);
        x.run(-1, 1);
        x.candidate(6);
        x.restore(1);
        x.carryOut();
        for (int i = 5; i >= 0; i--) {
            due(x.undo(), i);
            due(x.count(6), 64 * i);
        }
    }

    private static void undoIsNoChange() {
        sentence("undo: Undoes the latest change - an undo is none itself, and cannot be undone.");
        Asked x = new Asked();
        x.start(1, 0, 0);
        x.start(2, 0, 0);
        due(x.undo(), 1);
        due(x.count(6), 64);
        due(x.undo(), 0);
        due(x.count(6), 0);
        due(x.undo(), NOT_POSSIBLE);
        due(x.count(6), 0);
    }

    private static void undoLeavesThePad() {
        sentence("undo: everything except the pad ..");
        Asked x = new Asked();
        x.put('k');
        x.start(1, 0, 0);
        x.put(';');
        due(x.undo(), 0);
        due(x.count(11), 2);
        x.put('k');
        due(x.carryOut(), 2);
        due(x.count(11), 0);
        due(x.undo(), 0);
        due(x.count(11), 0);
        due(x.fault(), 0);
    }

    private static void undoLeavesTheSlots() {
        sentence("undo: everything except .. the slots ..");
        Asked x = new Asked();
        x.start(1, 0, 0);
        x.save(0);
        x.start(2, 0, 0);
        x.save(1);
        x.undo();
        x.undo();
        due(x.undo(), NOT_POSSIBLE);
        due(x.restore(0), 0);
        due(x.count(6), 64);
        due(x.restore(1), 0);
        due(x.count(6), 128);
        x.undo();
        x.undo();
        due(x.count(6), 0);
        due(x.restore(1), 0);
        due(x.count(6), 128);
    }

    private static void undoBringsBackTheWay() {
        sentence("undo: .. is as it was before it - also which run saw a state first, and the way of the states.");
        Asked x = new Asked();
        x.start(7, 0, 0);
        x.step(TRUE, COPY, A, A, -1);
        x.run(0, 2);
        x.run(0, 5);
        x.start(7, 7, 0);
        x.run(0, 1);
        due(x.undo(), 5);
        due(x.undo(), 4);
        x.candidate(code(AT_LEAST, A, 0, 6));
        x.candidate(code(AT_LEAST, A, 0, 3));
        x.candidate(code(IS, B, 0, 0));
        dueFate(x, 0, BY_RUN, state(5, 0, 0), 0, NONE);
        dueFate(x, 1, BY_RUN, state(2, 0, 0), 1, NONE);
        dueStanding(x, 2);
        due(x.undo(), 5);
        due(x.undo(), 4);
        due(x.undo(), 3);
        due(x.undo(), 2);
        x.candidate(code(AT_LEAST, A, 0, 3));
        dueStanding(x, 0);
        due(x.run(0, 5), 3);
        dueFate(x, 0, BY_RUN, state(2, 0, 0), 1, NONE);
    }

    private static void undoOfAnotherCandidate() {
        sentence("undo: .. is as it was before it - in a place where there was another candidate, or another step, in between.");
        Asked x = new Asked();
        x.candidate(code(IS, A, 0, 0));
        x.step(code(IS, B, 0, 0), PUT, A, 0, 1);
        x.save(0);
        x.undo();
        x.undo();
        x.candidate(code(IS, C, 0, 1));
        x.step(code(IS, B, 0, 1), COPY, B, C, -2);
        due(x.restore(0), 1);
        due(x.ofCandidate(0, 0), code(IS, A, 0, 0));
        due(x.ofStep(0, 0), code(IS, B, 0, 0));
        due(x.ofStep(0, 4), 8);
        due(x.undo(), 2);
        due(x.ofCandidate(0, 0), code(IS, C, 0, 1));
        due(x.ofStep(0, 0), code(IS, B, 0, 1));
        due(x.ofStep(0, 1), COPY);
        due(x.ofStep(0, 3), C);
        due(x.ofStep(0, 4), 5);
        due(x.candidate(code(IS, A, 0, 0)), 1);
        due(x.candidate(code(IS, C, 0, 1)), NOT_POSSIBLE);
    }

    private static void undoOfAFullRow() {
        sentence("undo: .. is as it was before it - of the eighth step and the fortieth candidate, so that there is room again.");
        Asked x = withCandidates(40);
        due(x.undo(), 5);
        due(x.count(1), 39);
        due(x.ofCandidate(39, 0), NO_SUCH);
        due(x.candidate(TRUE), 39);
        due(x.candidate(fortyClaims()[39]), TOO_MANY);
        for (int i = 0; i < 8; i++) {
            x.step(TRUE, PUT, A, 0, i);
        }
        due(x.drop(0), 7);
        due(x.undo(), 5);
        due(x.count(0), 8);
        due(x.leads(0, 511), 63);
        due(x.leads(7, 0), 448);
        due(x.undo(), 4);
        due(x.count(0), 7);
        due(x.leads(7, 0), NO_SUCH);
        due(x.count(1), 40);
        due(x.ofCandidate(39, 0), TRUE);
    }

    private static void changesAfterUndo() {
        sentence("when one more is recorded .. - after an undo the next change is recorded in its place.");
        Asked x = new Asked();
        for (int i = 1; i <= 7; i++) {
            x.start(i, 0, 0);
        }
        x.undo();
        x.undo();
        due(x.count(6), state(5, 0, 0));
        x.start(0, 5, 0);
        x.start(0, 6, 0);
        x.start(0, 7, 0);
        due(x.count(12), 6);
        int[] before = {state(0, 6, 0), state(0, 5, 0), state(5, 0, 0), state(4, 0, 0), state(3, 0, 0), state(2, 0, 0)};
        for (int i = 0; i < 6; i++) {
            due(x.undo(), 5 - i);
            due(x.count(6), before[i]);
        }
        due(x.undo(), NOT_POSSIBLE);
    }

    private static void ordersRecordNothing() {
        sentence("An order of a text records nothing by itself.");
        Asked x = new Asked();
        x.start(1, 0, 0);
        due(carryOut(x, "k;k;k;k;k;k;k;k;c*;s*:a=1;r1*1"), 11);
        due(x.count(12), 2);
        due(x.undo(), 1);
        due(x.count(0), 0);
        due(x.count(1), 0);
        due(x.undo(), 0);
        due(x.count(6), 0);
        // the oldest of six is dropped by a text once, not once by each order
        x = new Asked();
        for (int i = 1; i <= 6; i++) {
            x.start(i, 0, 0);
        }
        due(carryOut(x, "c*;ca=6;cb=0;cc=0"), 4);
        for (int i = 6; i >= 1; i--) {
            due(x.undo(), i - 1);
            due(x.count(6), 64 * i);
        }
    }

    private static void saveAnswersHowManyStand() {
        sentence("save: Returns how many candidates stand - none to 40.");
        Asked x = new Asked();
        due(x.save(0), 0);
        x.candidate(code(IS, A, 0, 1));
        due(x.save(0), 0);
        x.candidate(TRUE);
        due(x.save(0), 1);
        x = withCandidates(40);
        due(x.save(1), 40);
        x.start(0, 0, 1);
        due(x.save(1), 38);
    }

    private static void saveIsInSlotsZeroAndOne() {
        sentence("save: slot: 0 or 1 .. BAD_VALUE if there is no such slot.");
        Asked x = new Asked();
        for (int bad : new int[] {LOWEST, -1, 2, HIGHEST}) {
            due(x.save(bad), BAD_VALUE);
        }
        due(x.restore(0), NOT_POSSIBLE);
        due(x.restore(1), NOT_POSSIBLE);
        due(x.save(0), 0);
        due(x.restore(1), NOT_POSSIBLE);
        due(x.restore(0), 0);
        due(x.save(1), 0);
        due(x.restore(1), 0);
    }

    private static void saveOverwrites() {
        sentence("save: .. and overwrites what was saved there - and not what is in the other slot.");
        Asked x = new Asked();
        x.start(1, 0, 0);
        x.save(0);
        x.save(1);
        x.start(2, 0, 0);
        x.save(0);
        x.save(2);
        x.save(-1);
        x.start(3, 0, 0);
        x.restore(1);
        due(x.count(6), 64);
        x.restore(0);
        due(x.count(6), 128);
        x.start(4, 0, 0);
        x.save(1);
        x.restore(0);
        due(x.count(6), 128);
        x.restore(1);
        due(x.count(6), 256);
    }

    private static void saveIsNoChange() {
        sentence("each method that is a change .. records the state before it - save is none, and changes nothing else.");
        Asked x = rich();
        String before = tell(x);
        x.save(1);
        x.save(0);
        dueSame("after save", tell(x), before);
        due(x.count(12), 6);
        due(x.count(11), 0);
    }

    private static void saveLeavesOutThePad() {
        sentence("save: Saves everything except the pad, the history and the slots.");
        Asked x = new Asked();
        x.start(1, 0, 0);
        append(x, "k;k");
        x.save(0);
        x.put(';');
        x.start(2, 0, 0);
        x.save(1);
        x.restore(0);
        due(x.count(11), 4);
        due(x.count(12), 3);
        // what is in slot 1 now is what was saved last there, not what was there when slot 0 was saved
        x.restore(1);
        due(x.count(6), 128);
        due(x.count(12), 4);
    }

    private static void restoreOfNothing() {
        sentence("restore: NOT_POSSIBLE if nothing was saved in it.");
        Asked x = new Asked();
        due(x.restore(0), NOT_POSSIBLE);
        due(x.restore(1), NOT_POSSIBLE);
        x.start(1, 0, 0);
        due(x.restore(0), NOT_POSSIBLE);
        due(x.count(6), 64);
        due(x.count(12), 1);
        x.save(1);
        due(x.restore(0), NOT_POSSIBLE);
        due(x.restore(1), 0);
        x.save(0);
        due(x.restore(0), 0);
    }

    private static void restoreIsOfSlotsZeroAndOne() {
        sentence("restore: slot: 0 or 1 .. BAD_VALUE if there is no such slot.");
        Asked x = new Asked();
        x.save(0);
        x.save(1);
        for (int bad : new int[] {LOWEST, -1, 2, HIGHEST}) {
            due(x.restore(bad), BAD_VALUE);
        }
        due(x.count(12), 0);
        due(x.restore(0), 0);
        due(x.restore(1), 0);
    }

    private static void restoreNamesBadValueFirst() {
        sentence("restore: BAD_VALUE ..; NOT_POSSIBLE .. - in this order.");
        Asked x = new Asked();
        for (int bad : new int[] {LOWEST, -1, 2, HIGHEST}) {
            due(x.restore(bad), BAD_VALUE);
        }
        due(x.restore(0), NOT_POSSIBLE);
    }

    private static void restoreAnswersHowManyStand() {
        sentence("restore: Returns how many candidates stand then - none to 40.");
        Asked x = withCandidates(40);
        x.save(0);
        x.start(7, 7, 7);
        x.save(1);
        due(x.restore(0), 40);
        due(x.restore(1), 3 + 6 + 6);
        due(x.restore(0), 40);
        x = new Asked();
        x.save(0);
        x.candidate(TRUE);
        due(x.restore(0), 0);
        due(x.count(1), 0);
    }

    private static void restoreOfTheLastOne() {
        sentence("restore: Restores what was saved last in a slot.");
        Asked x = new Asked();
        for (int i = 1; i <= 7; i++) {
            x.start(i, 0, 0);
            x.save(i % 2);
        }
        x.restore(0);
        due(x.count(6), 6 * 64);
        x.restore(1);
        due(x.count(6), 7 * 64);
    }

    private static void theSlotKeepsIt() {
        sentence("restore: .. in a slot, which keeps it.");
        Asked x = rich();
        x.save(0);
        String saved = tell(x);
        for (int i = 0; i < 2; i++) {
            x.drop(0);
            x.start(5, 5, 5);
            x.candidate(code(EVEN, A, B, 1));
            x.run(4, 50);
            x.strike();
            due(x.restore(0), 2);
        }
        dueSame("after two restores", tell(x), saved);
        x.undo();
        x.undo();
        due(x.restore(0), 2);
        dueSame("after a third one", tell(x), saved);
    }

    private static void restoreIsAChange() {
        sentence("restore: This is a change - which an undo takes back.");
        Asked x = new Asked();
        x.save(1);
        x.candidate(TRUE);
        x.start(3, 3, 3);
        due(x.restore(1), 0);
        due(x.count(12), 3);
        due(x.count(6), 0);
        due(x.count(1), 0);
        due(x.undo(), 2);
        due(x.count(6), state(3, 3, 3));
        due(x.count(1), 1);
    }

    private static void restoreBringsBackEverything() {
        sentence("restore: Restores what was saved - everything except the pad, the history and the slots.");
        Asked x = rich();
        x.save(1);
        String saved = tell(x);
        x.wrap(1);
        x.drop(1);
        x.guess(EVEN);
        x.run(77, 9);
        x.settle();
        x.restore(1);
        dueSame("after restore", tell(x), saved);
        // the way and its runs, too: of seed 0 and 4 moves a becomes 1 first
        x.candidate(code(AT_MOST, A, 0, 0));
        dueFate(x, 7, BY_RUN, state(1, 1, 0), 0, NONE);
        // and what was saved of a machine with fewer of all
        x.restore(0);
        due(x.count(0), 1);
        due(x.count(1), 0);
        due(x.count(3), 1);
        due(x.count(6), 0);
        due(x.ofStep(1, 0), NO_SUCH);
        due(x.ofCandidate(0, 0), NO_SUCH);
    }

    private static void restoreLeavesPadAndHistory() {
        sentence("restore: .. everything except the pad, the history and the slots - which stay, the history with one more.");
        Asked x = new Asked();
        x.save(0);
        for (int i = 1; i <= 6; i++) {
            x.start(i, 0, 0);
        }
        append(x, "c*");
        due(x.restore(0), 0);
        due(x.count(11), 2);
        due(x.count(12), 6);
        due(x.undo(), 5);
        due(x.count(6), 6 * 64);
        due(x.undo(), 4);
        due(x.count(6), 5 * 64);
        due(x.carryOut(), 1);
    }

    private static void slotsAreOfOneObject() {
        sentence("save: Saves .. in a slot - of this object.");
        Asked x = new Asked();
        Asked y = new Asked();
        x.start(1, 0, 0);
        x.save(0);
        due(y.restore(0), NOT_POSSIBLE);
        y.start(2, 0, 0);
        y.save(0);
        x.start(3, 0, 0);
        x.restore(0);
        due(x.count(6), 64);
        due(y.count(6), 128);
        due(y.count(12), 1);
    }
}
