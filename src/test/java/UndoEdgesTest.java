/** The sentences of promise 13, "Undo" and "Exceptions" that name a boundary case, a test each. */
public final class UndoEdgesTest {
    public static void main(String[] args) {
        noSavedState();
        oneSavedState();
        atMostSixStates();
        theOldestIsDroppedFirst();
        undoReturnsTheStatesLeft();
        undoDropsTheState();
        undoSavesNothing();
        savedAlsoIfNothingIsChanged();
        whatIsCountedIsRestored();
        settingsAreRestored();
        theBufferIsNotRestored();
        savedStatesAreNotRestored();
        eachUndoableCallSavesOne();
        noOtherCallSaves();
        refusedCallsSaveNothing();
        Check.end("UndoEdgesTest");
    }

    /** Promise 13, "if there is none": at first, and behind as many undos as saved states. */
    private static void noSavedState() {
        Check.refusedAsItIs("at first", Check.STATE, HintedPages::new, HintedPages::undo);
        Check.refusedAsItIs("with a text", Check.STATE, () -> Scenes.typed("1-2"), HintedPages::undo);
        Scene undone = Scene.of(Scenes::packed).undone(1);
        Check.refusedAsItIs("undone", Check.STATE, undone, HintedPages::undo);
        Check.refusedAsItIs("undone six times", Check.STATE, Scene.of(Scenes::tight).undone(6), HintedPages::undo);
    }

    /** Promise 13, "Restores the latest saved state": the only one. */
    private static void oneSavedState() {
        HintedPages pages = Scenes.packed();
        Check.same("one", pages.count(11), 1);
        Check.same("none is left", pages.undo(), 0);
        Check.same("as a new object", pages.digest(), new HintedPages().digest());
    }

    /** Undo, "At most 6 states are saved": five, six, and seven calls. */
    private static void atMostSixStates() {
        for (int calls = 0; calls <= 14; calls++) {
            HintedPages pages = new HintedPages();
            for (int page = 0; page < calls; page++) {
                pages.write(page, 0);
            }
            int saved = Math.min(calls, 6);
            Check.same("saved states", pages.count(11), saved);
            for (int left = saved - 1; left >= 0; left--) {
                Check.same("left", pages.undo(), left);
            }
            Check.same("no more", Check.answer(pages::undo), Check.STATE);
            Check.same("back to the oldest that was kept", pages.count(6), calls - saved);
        }
    }

    /** Undo, "the oldest one is dropped first": all that are left are the latest ones, in their order. */
    private static void theOldestIsDroppedFirst() {
        Scene thirteen = writes(13);
        for (int undone = 1; undone <= 6; undone++) {
            String due = Looks.of(writes(13 - undone)).all();
            Check.same("undone " + undone, Looks.of(thirteen.undone(undone)).all(), due);
        }
        Check.refusedAsItIs("the seventh", Check.STATE, thirteen.undone(6), HintedPages::undo);
    }

    private static Scene writes(int many) {
        return () -> {
            HintedPages pages = new HintedPages();
            for (int page = 0; page < many; page++) {
                pages.write(page, page % 4);
            }
            return pages;
        };
    }

    /** Promise 13, "Returns how many saved states are left": from 5 to 0. */
    private static void undoReturnsTheStatesLeft() {
        HintedPages pages = Scenes.tight();
        for (int left = 5; left >= 0; left--) {
            Check.same("left", pages.undo(), left);
            Check.same("counted alike", pages.count(11), left);
        }
    }

    /** Promise 13, "and drops it": the next undo restores the one before, and new ones come behind it. */
    private static void undoDropsTheState() {
        HintedPages pages = new HintedPages();
        pages.write(1, 1);
        pages.write(2, 2);
        Check.same("first", pages.undo(), 1);
        Check.same("page 2 is gone", pages.page(2, 0), -1);
        pages.write(3, 3);
        Check.same("saved again", pages.count(11), 2);
        Check.same("second", pages.undo(), 1);
        Check.same("page 3 is gone", pages.page(3, 0), -1);
        Check.same("page 1 is not", pages.page(1, 2), 1);
        Check.same("third", pages.undo(), 0);
        Check.same("nothing is written", pages.count(6), 0);
    }

    /** Promise 13 is not marked "Undoable": undo is not undone. */
    private static void undoSavesNothing() {
        HintedPages pages = Scenes.tight();
        pages.undo();
        Check.same("five are left", pages.count(11), 5);
        pages.undo();
        Check.same("two writes are undone", pages.count(6), 79);
    }

    /** Undo, "(also if it changes nothing)": each call that can be without effect. */
    private static void savedAlsoIfNothingIsChanged() {
        HintedPages pages = new HintedPages();
        pages.tidy(12);
        Check.same("tidy", pages.count(11), 1);
        pages.trim(0);
        Check.same("trim", pages.count(11), 2);
        pages.set(1, 2);
        Check.same("set", pages.count(11), 3);
        pages.write(0, 1);
        pages.hint(0, 1);
        Check.same("hint", pages.count(11), 5);
        Check.same("undone: still written", pages.undo(), 4);
        Check.same("page 0", pages.page(0, 2), 1);
        Check.same("undone: not written", pages.undo(), 3);
        Check.same("page 0", pages.page(0, 2), -1);
    }

    /** Undo, "all, also what is counted so far": each count, of pages, blocks and streams too. */
    private static void whatIsCountedIsRestored() {
        Scene before = Scene.of(Scenes::few).then(pages -> pages.collect(9));
        String due = Looks.of(before).all();
        Call[] calls = {pages -> pages.writeRow(0, 40, 3), pages -> pages.collect(8), pages -> pages.tidy(12)};
        for (Call call : calls) {
            Check.same("changed", Looks.of(before.then(call)).all().equals(due) ? 1 : 0, 0);
            Check.same("restored", Looks.of(before.then(call).undone(1)).all(), due);
        }
    }

    /** Undo, "all": the settings too. */
    private static void settingsAreRestored() {
        HintedPages pages = new HintedPages();
        pages.set(0, 2);
        pages.set(1, 4);
        pages.undo();
        Check.same("free blocks that are kept", pages.setting(1), 2);
        Check.same("the rule is not undone yet", pages.setting(0), 2);
        pages.undo();
        Check.same("the rule", pages.setting(0), 0);
    }

    /** Undo, "but the buffer": what was typed since stays, what was cleared stays clear. */
    private static void theBufferIsNotRestored() {
        HintedPages pages = Scenes.typed("12");
        pages.write(0, 0);
        pages.append('x');
        pages.undo();
        Check.same("three characters", pages.firstError(), 2);
        Check.same("length", pages.clearBuffer(), 3);
        Scenes.type(pages, "5");
        pages.writeAll();
        pages.undo();
        Check.same("still clear", pages.clearBuffer(), 0);
    }

    /** Undo, "and the saved states": those ahead of the restored one stay saved. */
    private static void savedStatesAreNotRestored() {
        HintedPages pages = Scenes.tight();
        Check.same("six", pages.count(11), 6);
        pages.write(0, 0);
        Check.same("five, though it were six before the call", pages.undo(), 5);
        Check.same("counted alike", pages.count(11), 5);
    }

    /** Undo, "Each method that is marked "undoable"": one state a call, from none to six. */
    private static void eachUndoableCallSavesOne() {
        Call[] calls = {pages -> pages.writeRow(0, 40, 1), pages -> pages.write(0, 0), pages -> pages.trim(39),
            pages -> pages.hint(0, 3), pages -> pages.collect(0), pages -> pages.tidy(12), pages -> pages.set(0, 1),
            UndoEdgesTest::typeAndWriteAll};
        HintedPages pages = new HintedPages();
        for (int i = 0; i < calls.length; i++) {
            calls[i].on(pages);
            Check.same("behind call " + i, pages.count(11), Math.min(i + 1, 6));
        }
    }

    private static long typeAndWriteAll(HintedPages pages) {
        Scenes.type(pages, "0-39;5h1");
        return pages.writeAll();
    }

    /** Undo, "Each method that is marked": no other one saves. */
    private static void noOtherCallSaves() {
        Call[] calls = {pages -> pages.append('1'), HintedPages::firstError, HintedPages::clearBuffer,
            pages -> pages.page(0, 0), pages -> pages.block(0, 0), pages -> pages.slot(0, 0, true),
            pages -> pages.stream(0, 0), pages -> pages.count(0), pages -> pages.setting(0),
            pages -> pages.ifWritten(0, 0, 0), pages -> pages.ifRewritten(1), pages -> pages.bestRule(1),
            pages -> (long) pages.amplification(), HintedPages::digest};
        for (int i = 0; i < calls.length; i++) {
            HintedPages pages = Scenes.few();
            calls[i].on(pages);
            Check.same("behind call " + i, pages.count(11), 3);
            HintedPages full = Scenes.tight();
            calls[i].on(full);
            for (int left = 5; left >= 0; left--) {
                full.undo();
            }
            Check.same("the oldest is kept, call " + i, full.count(6), 75);
        }
    }

    /** Undo, "and does not throw an exception", and Exceptions, "changes nothing". */
    private static void refusedCallsSaveNothing() {
        Call[] calls = {pages -> pages.write(40, 0), pages -> pages.writeRow(39, 2, 0), pages -> pages.trim(-1),
            pages -> pages.hint(20, 0), pages -> pages.collect(11), pages -> pages.tidy(13), pages -> pages.set(1, 5),
            pages -> pages.append(127), HintedPages::writeAll};
        for (Call call : calls) {
            HintedPages pages = Scenes.tight();
            Check.same("refused", Check.answer(() -> call.on(pages)).startsWith("throws.") ? 1 : 0, 1);
            Check.alike("nothing is changed", pages, Scenes.tight());
        }
    }
}
