/** The sentences of the promises 6 to 8 and of "Settings" that name a boundary case, a test each. */
public final class BlocksEdgesTest {
    public static void main(String[] args) {
        collectRange();
        collectOfTheLastBlock();
        collectAlsoWithoutOldSlots();
        collectNeedsAClosedBlock();
        collectThrowsTheFirstNamed();
        collectReturnsCopies();
        collectIsUndoable();
        tidyRange();
        tidyWithAsManyFreeBlocks();
        tidyWithOneFewer();
        tidyWithoutVictim();
        tidyOfAllThatCanBeCollected();
        tidyReturnsBlocks();
        tidyIsUndoableAsOneCall();
        setSettingRange();
        setRule();
        setKeptBlocks();
        setThrowsTheFirstNamed();
        setReturnsThePreviousValue();
        setIsUndoable();
        settingsAtFirst();
        Check.end("BlocksEdgesTest");
    }

    /** The blocks 8, 9 and 11 are closed, 10 is open, the others are free. */
    private static HintedPages lastClosed() {
        HintedPages pages = Scenes.few();
        for (int block = 0; block < 8; block++) {
            pages.collect(block);
        }
        return pages;
    }

    /** Promise 6, "block: 0 to 11" and "if there is no such block". */
    private static void collectRange() {
        int[] wrongs = {-1, 12, 13, Integer.MIN_VALUE, Integer.MAX_VALUE};
        for (int wrong : wrongs) {
            Check.refused("collect(" + wrong + ")", Check.INDEX, Scenes::few, pages -> pages.collect(wrong));
        }
        for (int block = 0; block < 10; block++) {
            Check.same("closed block " + block, Scenes.tight().collect(block), block < 9 ? 1 : 2);
        }
    }

    /** Promise 6, "block: 0 to 11": the last one. */
    private static void collectOfTheLastBlock() {
        HintedPages pages = lastClosed();
        Check.same("closed", pages.block(11, 0), 2);
        Check.same("eight copies", pages.collect(11), 8);
        Check.same("free", pages.block(11, 0), 0);
    }

    /** Promise 6, "also one without old slots". */
    private static void collectAlsoWithoutOldSlots() {
        HintedPages pages = Scenes.packed();
        Check.same("no victim", pages.count(10), -1);
        Check.same("all eight", pages.collect(4), 8);
        Check.same("erased", pages.block(4, 5), 1);
        Check.same("page 39", pages.page(39, 0), 5);
        Check.undoable("collect without old slots", Scenes::packed, each -> each.collect(0));
    }

    /** Promise 6, "if it is not closed": free, never used; free, erased; open, with 1 and 7 slots. */
    private static void collectNeedsAClosedBlock() {
        Check.refused("free", Check.STATE, Scenes::few, pages -> pages.collect(11));
        Check.refused("open", Check.STATE, Scenes::few, pages -> pages.collect(10));
        Scene erased = Scene.of(Scenes::few).then(pages -> pages.collect(0));
        Check.refused("erased", Check.STATE, erased, pages -> pages.collect(0));
        Check.refused("open for copies", Check.STATE, erased, pages -> pages.collect(11));
        Scene nearly = Scene.of(HintedPages::new).then(pages -> pages.writeRow(0, 7, 0));
        Check.refused("one blank slot", Check.STATE, nearly, pages -> pages.collect(0));
        Check.same("no blank slot", nearly.then(pages -> pages.write(7, 0)).make().collect(0), 8);
        for (int block = 0; block < 12; block++) {
            int free = block;
            Check.refused("in a new object", Check.STATE, HintedPages::new, pages -> pages.collect(free));
        }
    }

    /** Promise 6, with "the one that is named first": a block that is none is not closed either. */
    private static void collectThrowsTheFirstNamed() {
        Check.refused("collect(12)", Check.INDEX, HintedPages::new, pages -> pages.collect(12));
        Check.refused("collect(-1)", Check.INDEX, HintedPages::new, pages -> pages.collect(-1));
    }

    /** Promise 6, "how many pages are copied by it": from 0 to 8. */
    private static void collectReturnsCopies() {
        for (int valid = 0; valid <= 8; valid++) {
            HintedPages pages = new HintedPages();
            pages.writeRow(0, 8, 0);
            for (int page = valid; page < 8; page++) {
                pages.trim(page);
            }
            Check.same("valid pages", pages.collect(0), valid);
            Check.same("copies so far", pages.count(7), valid);
        }
    }

    /** Promise 6, "Undoable". */
    private static void collectIsUndoable() {
        Check.undoable("collect", Scenes::few, pages -> pages.collect(9));
    }

    /** Promise 7, "free: 1 to 12" and "if free is out of range". */
    private static void tidyRange() {
        Check.range("tidy", Check.ARGUMENT, Scenes::few, 1, 12, HintedPages::tidy);
    }

    /** Promise 7, "as long as there are fewer free blocks than a number": as many are enough. */
    private static void tidyWithAsManyFreeBlocks() {
        Check.same("two are free", Scenes.spread().tidy(2), 0);
        Check.same("two for one", Scenes.spread().tidy(1), 0);
        Check.same("one is free", Scenes.tight().tidy(1), 0);
        Check.same("all are free", new HintedPages().tidy(12), 0);
    }

    /** Promise 7, "as long as there are fewer": one fewer, and no more than are needed. */
    private static void tidyWithOneFewer() {
        HintedPages pages = Scenes.spread();
        // The first block that is collected opens one for its copy.
        Check.same("three of two", pages.tidy(3), 2);
        Check.same("free blocks", pages.count(1), 3);
        Check.same("four of three", pages.tidy(4), 1);
        Check.same("free blocks", pages.count(1), 4);
        HintedPages oldAlone = Scenes.spread();
        oldAlone.trim(0);
        Check.same("without copies", oldAlone.tidy(3), 1);
        Check.same("setting 1 is of no use here", Scene.of(Scenes::tight)
            .then(each -> each.set(1, 4)).make().tidy(1), 0);
    }

    /** Promise 7, "and there is a victim": there is none. */
    private static void tidyWithoutVictim() {
        HintedPages pages = Scenes.packed();
        Check.same("seven are free", pages.count(1), 7);
        Check.same("no block to collect", pages.tidy(12), 0);
        Check.same("no erasure", pages.count(8), 0);
        HintedPages open = new HintedPages();
        open.writeRow(0, 7, 0);
        open.writeRow(0, 7, 1);
        Check.same("old slots in open blocks alone", open.tidy(12), 0);
    }

    /** Promise 7, "and there is a victim": all that can be collected, and then no more. */
    private static void tidyOfAllThatCanBeCollected() {
        HintedPages pages = Scenes.tight();
        Check.same("all ten", pages.tidy(12), 10);
        Check.same("no victim is left", pages.count(10), -1);
        Check.same("old slots", pages.count(4), 0);
        Check.same("copies", pages.count(7), 11);
        Check.same("erasures", pages.count(8), 10);
        Check.same("nothing is left to do", pages.tidy(12), 0);
        HintedPages empty = new HintedPages();
        empty.writeRow(0, 8, 0);
        empty.writeRow(0, 8, 0);
        for (int page = 0; page < 8; page++) {
            empty.trim(page);
        }
        Check.same("both", empty.tidy(12), 2);
        Check.same("all are free", empty.count(1), 12);
    }

    /** Promise 7, "Returns how many blocks are collected": not pages. */
    private static void tidyReturnsBlocks() {
        HintedPages pages = Scenes.few();
        Check.same("ten blocks, of which one has no old slot", pages.tidy(12), 9);
        HintedPages one = new HintedPages();
        one.writeRow(0, 8, 0);
        one.trim(3);
        Check.same("one block", one.tidy(12), 1);
        Check.same("seven pages", one.count(7), 7);
    }

    /** Promise 7, "Undoable, as one call", with "also if it changes nothing". */
    private static void tidyIsUndoableAsOneCall() {
        Check.undoable("tidy", Scenes::few, pages -> pages.tidy(12));
        Check.undoable("tidy of nothing", Scenes::few, pages -> pages.tidy(1));
        Check.undoable("tidy without victim", Scenes::packed, pages -> pages.tidy(12));
    }

    /** Promise 8, "setting: 0 or 1" and "if there is no such setting". */
    private static void setSettingRange() {
        Check.range("set's setting", Check.INDEX, Scenes::few, 0, 1, (pages, setting) -> pages.set(setting, 2));
    }

    /** Settings, "0: the rule for victims, 0 to 2", and promise 8, "if value is out of range". */
    private static void setRule() {
        Check.range("set's rule", Check.ARGUMENT, Scenes::few, 0, 2, (pages, rule) -> pages.set(0, rule));
    }

    /** Settings, "1: free blocks that are kept, 2 to 4", and promise 8, "if value is out of range". */
    private static void setKeptBlocks() {
        Check.range("set's free blocks", Check.ARGUMENT, Scenes::few, 2, 4, (pages, kept) -> pages.set(1, kept));
        Check.refused("a rule, but no number of kept blocks", Check.ARGUMENT, Scenes::few, pages -> pages.set(1, 0));
    }

    /** Promise 8, with "the one that is named first": no such setting ahead of its value. */
    private static void setThrowsTheFirstNamed() {
        Check.refused("set(2, 9)", Check.INDEX, Scenes::few, pages -> pages.set(2, 9));
        Check.refused("set(-1, -1)", Check.INDEX, Scenes::few, pages -> pages.set(-1, -1));
    }

    /** Promise 8, "Returns the previous value": also if it is the same. */
    private static void setReturnsThePreviousValue() {
        HintedPages pages = new HintedPages();
        Check.same("rule at first", pages.set(0, 2), 0);
        Check.same("rule", pages.set(0, 2), 2);
        Check.same("kept at first", pages.set(1, 4), 2);
        Check.same("kept", pages.set(1, 4), 4);
        Check.same("the other one stays", pages.setting(0), 2);
    }

    /** Promise 8, "Undoable", with "also if it changes nothing". */
    private static void setIsUndoable() {
        Check.undoable("set", Scenes::few, pages -> pages.set(0, 2));
        Check.undoable("set of free blocks", Scenes::few, pages -> pages.set(1, 3));
        Check.undoable("set to the same", Scenes::few, pages -> pages.set(0, 0));
    }

    /** Settings, "at first 0" and "at first 2". */
    private static void settingsAtFirst() {
        Check.same("rule", new HintedPages().setting(0), 0);
        Check.same("kept", new HintedPages().setting(1), 2);
    }
}
