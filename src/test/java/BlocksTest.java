/** Promises 6 to 8: collect, tidy, set. */
public final class BlocksTest {
    public static void main(String[] args) {
        collect();
        collectWithoutOldSlots();
        collectClosesTheBlockOfCopies();
        tidy();
        set();
        Check.end("BlocksTest");
    }

    private static void collect() {
        HintedPages pages = Scenes.spread();
        Check.same("two valid pages", pages.collect(9), 2);
        Check.same("by ascending slots", pages.slot(10, 0, true), 9);
        Check.same("the second", pages.slot(10, 1, true), 39);
        Check.same("free", pages.block(9, 0), 0);
        Check.same("erased", pages.block(9, 5), 1);
        Check.same("all blank", pages.block(9, 4), 8);
        Check.same("no stream", pages.block(9, 1), -1);
        Check.same("open for copies", pages.stream(4, 0), 10);
        Check.same("not the victim", pages.count(10), 0);
        Check.same("setting 1 is of no use here", pages.block(0, 5), 0);
    }

    private static void collectWithoutOldSlots() {
        HintedPages pages = new HintedPages();
        pages.writeRow(0, 8, 2);
        Check.same("all slots are valid", pages.collect(0), 8);
        Check.same("all went to block 1", pages.block(1, 2), 8);
        Check.same("which is closed", pages.block(1, 0), 2);
        Check.same("no open block for copies", pages.stream(4, 0), -1);
        Check.same("with their hints", pages.stream(2, 2), 8);
        Check.same("a block of copies", pages.collect(1), 8);
        Check.same("blocks without erasures first", pages.page(0, 0), 2);
        Check.same("copied twice since", pages.page(7, 5), 2);
    }

    private static void collectClosesTheBlockOfCopies() {
        HintedPages pages = new HintedPages();
        pages.writeRow(0, 16, 0);
        pages.write(0, 1);
        pages.write(1, 1);
        Check.same("six copies", pages.collect(0), 6);
        Check.same("eight copies", pages.collect(1), 8);
        Check.same("two of them fill the block", pages.block(3, 0), 2);
        Check.same("the others go on", pages.page(10, 0), 4);
        Check.same("in its first slot", pages.page(10, 1), 0);
        Check.same("copies so far", pages.count(7), 14);
    }

    private static void tidy() {
        HintedPages pages = Scenes.spread();
        Check.same("enough are free", pages.tidy(2), 0);
        // The block of copies takes one of the free ones.
        Check.same("two for one", pages.tidy(3), 2);
        Check.same("three are free", pages.count(1), 3);
        Check.same("two copies", pages.count(7), 2);
        Check.same("until no victim is left", pages.tidy(12), 8);
        Check.same("all pages are copied", pages.count(7), 11);
        Check.same("no victim", pages.count(10), -1);
        Check.same("nothing to do", pages.tidy(12), 0);
        Check.same("by the rule 1", tidyBy(1), 0);
        Check.same("by the rule 0", tidyBy(0), 5);
    }

    /** The one block of the first ten that is free after tidying for one more. */
    private static int tidyBy(int rule) {
        HintedPages pages = Scenes.spread();
        pages.set(0, rule);
        pages.trim(5);
        pages.collect(9);
        pages.tidy(3);
        for (int block = 0; block < 9; block++) {
            if (pages.block(block, 0) == 0) {
                return block;
            }
        }
        return -1;
    }

    private static void set() {
        HintedPages pages = new HintedPages();
        Check.same("rule 2", pages.set(0, 2), 0);
        Check.same("rule 1", pages.set(0, 1), 2);
        Check.same("rule 0", pages.set(0, 0), 1);
        Check.same("kept 4", pages.set(1, 4), 2);
        Check.same("kept 3", pages.set(1, 3), 4);
        Check.same("kept 2", pages.set(1, 2), 3);
    }
}
