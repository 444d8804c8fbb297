/** The sentences of "Programming, collecting" on blocks that are collected, a test each. */
public final class CollectingEdgesTest {
    public static void main(String[] args) {
        validPagesAreCopiedByAscendingSlots();
        hintsStayAsTheyAre();
        blockWithoutValidPagesOpensNone();
        blockIsErasedBehindTheCopies();
        erasedBlockIsBlankAndFree();
        victimIsClosed();
        victimHasAnOldSlot();
        victimByRule0();
        victimByRule1();
        victimByRule2();
        noVictimInANewObject();
        asManyFreeBlocksAsKept();
        fewerFreeBlocksThanKept();
        moreAreKeptBySetting1();
        fewerThanKeptButNoVictim();
        hintComesBehindCollecting();
        formerSlotIsValidUntilThen();
        aFreeBlockIsAlwaysThere();
        Check.end("CollectingEdgesTest");
    }

    /** Collecting, "its valid pages are programmed for the stream 4, by ascending slots". */
    private static void validPagesAreCopiedByAscendingSlots() {
        HintedPages pages = new HintedPages();
        for (int page = 7; page >= 0; page--) {
            pages.write(page, 0);
        }
        pages.trim(7);
        pages.write(4, 1);
        Check.same("the valid ones alone", pages.collect(0), 6);
        int[] due = {6, 5, 3, 2, 1, 0, -1, -1};
        for (int slot = 0; slot < 8; slot++) {
            Check.same("slot " + slot, pages.slot(2, slot, true), due[slot]);
        }
        Check.same("for the stream 4", pages.stream(4, 0), 2);
        Check.same("programmed for it", pages.stream(4, 1), 6);
        Check.same("not for the stream 0", pages.stream(0, 1), 8);
    }

    /** Collecting, "(with their hints as they are)". */
    private static void hintsStayAsTheyAre() {
        HintedPages pages = new HintedPages();
        pages.writeRow(0, 8, 1);
        pages.hint(0, 0);
        pages.hint(7, 3);
        pages.collect(0);
        Check.same("hint 0", pages.page(0, 2), 0);
        Check.same("hint 1", pages.page(1, 2), 1);
        Check.same("hint 3", pages.page(7, 2), 3);
        Check.same("copies with hint 0", pages.stream(0, 3), 1);
        Check.same("copies with hint 1", pages.stream(1, 3), 6);
        Check.same("copies with hint 2", pages.stream(2, 3), 0);
        Check.same("copies with hint 3", pages.stream(3, 3), 1);
    }

    /** Collecting, "its valid pages are programmed": without any, none is, and no block is opened. */
    private static void blockWithoutValidPagesOpensNone() {
        HintedPages pages = new HintedPages();
        pages.writeRow(0, 8, 0);
        pages.writeRow(0, 8, 0);
        Check.same("no copies", pages.collect(0), 0);
        Check.same("no open block", pages.stream(4, 0), -1);
        Check.same("eleven free blocks", pages.count(1), 11);
        Check.same("an erasure", pages.block(0, 5), 1);
    }

    /** Collecting, "then the block is erased": its own slots are of no use to its copies. */
    private static void blockIsErasedBehindTheCopies() {
        HintedPages pages = new HintedPages();
        pages.writeRow(0, 8, 0);
        Check.same("all slots are copied", pages.collect(0), 8);
        for (int page = 0; page < 8; page++) {
            Check.same("in the next block", pages.page(page, 0), 1);
        }
        Check.same("eleven free blocks", pages.count(1), 11);
    }

    /** Collecting, "all its slots are blank, its erasures become 1 more, and it is free". */
    private static void erasedBlockIsBlankAndFree() {
        HintedPages pages = Scenes.tight();
        pages.collect(9);
        for (int slot = 0; slot < 8; slot++) {
            Check.same("blank", pages.slot(9, slot, false), -1);
        }
        int[] due = {0, -1, 0, 0, 8, 1, -1, 0};
        for (int what = 0; what < due.length; what++) {
            Check.same("block(9, " + what + ")", pages.block(9, what), due[what]);
        }
        Check.same("no other is erased", pages.count(8), 1);
    }

    /** Collecting, "The victim is, of the closed blocks": neither an open nor a free one. */
    private static void victimIsClosed() {
        HintedPages pages = new HintedPages();
        pages.writeRow(0, 7, 0);
        pages.writeRow(0, 7, 1);
        Check.same("old slots in open blocks", pages.count(4), 7);
        Check.same("no victim", pages.count(10), -1);
        pages.write(7, 0);
        Check.same("closed: the victim", pages.count(10), 0);
    }

    /** Collecting, "with an old slot": one is enough, none is not, all are fine. */
    private static void victimHasAnOldSlot() {
        HintedPages pages = new HintedPages();
        pages.writeRow(0, 8, 0);
        Check.same("no old slot", pages.count(10), -1);
        pages.trim(7);
        Check.same("one old slot", pages.count(10), 0);
        for (int page = 0; page < 7; page++) {
            pages.trim(page);
        }
        Check.same("old slots alone", pages.count(10), 0);
        pages.collect(0);
        Check.same("collected", pages.count(10), -1);
    }

    /** Blocks 0, 1 and 2 are closed; the block 1 was closed first, the block 0 last. */
    private static HintedPages threeClosed() {
        HintedPages pages = new HintedPages();
        pages.writeRow(0, 7, 0);
        pages.writeRow(8, 8, 1);
        pages.writeRow(16, 8, 2);
        pages.write(7, 0);
        return pages;
    }

    private static void trimRow(HintedPages pages, int first, int many) {
        for (int page = first; page < first + many; page++) {
            pages.trim(page);
        }
    }

    /** Collecting, "by setting 0 as 0: the one with the fewest valid slots ... of these the lowest one". */
    private static void victimByRule0() {
        HintedPages pages = threeClosed();
        trimRow(pages, 0, 2);
        trimRow(pages, 8, 3);
        trimRow(pages, 16, 3);
        Check.same("of two with five, the lower one", pages.count(10), 1);
        pages.trim(23);
        Check.same("the one with four", pages.count(10), 2);
        trimRow(pages, 2, 2);
        Check.same("of two with four, the lower one", pages.count(10), 0);
    }

    /** Collecting, "as 1: the one that was closed first": as closed, not as opened or numbered. */
    private static void victimByRule1() {
        HintedPages pages = threeClosed();
        pages.set(0, 1);
        trimRow(pages, 0, 5);
        Check.same("the only one", pages.count(10), 0);
        pages.trim(16);
        Check.same("closed ahead of it", pages.count(10), 2);
        pages.trim(8);
        Check.same("closed first", pages.count(10), 1);
        pages.set(0, 0);
        Check.same("not so by rule 0", pages.count(10), 0);
    }

    /**
     * Collecting, "as 2: the one with the fewest erasures; of several always the one with the fewest
     * valid slots, of these the lowest one".
     */
    private static void victimByRule2() {
        HintedPages pages = erasedOnce();
        pages.set(0, 2);
        Check.same("no old slot", pages.count(10), -1);
        trimRow(pages, 0, 8);
        Check.same("the only one, erased once", pages.count(10), 0);
        pages.trim(8);
        Check.same("never erased, though with seven valid slots to none", pages.count(10), 8);
        trimRow(pages, 24, 2);
        Check.same("fewer valid slots", pages.count(10), 10);
        trimRow(pages, 16, 2);
        Check.same("of two with six, the lower one", pages.count(10), 9);
        pages.set(0, 0);
        Check.same("not so by rule 0", pages.count(10), 0);
    }

    /** The pages 0 to 7 are in block 0, which was erased once; 8 to 39 in 8 to 11, which never were. */
    private static HintedPages erasedOnce() {
        HintedPages pages = new HintedPages();
        pages.writeRow(0, 8, 0);
        pages.collect(0);
        pages.writeRow(0, 40, 0);
        pages.writeRow(0, 40, 0);
        // Of the blocks that writing collected, 0 is the lowest of those with one erasure.
        pages.writeRow(0, 8, 0);
        pages.tidy(12);
        Check.same("page 0", pages.page(0, 0), 0);
        Check.same("page 8", pages.page(8, 0), 8);
        Check.same("page 39", pages.page(39, 0), 11);
        Check.same("block 0", pages.block(0, 5), 1);
        return pages;
    }

    /** Collecting, "The victim is, of the closed blocks with an old slot": there may be none. */
    private static void noVictimInANewObject() {
        HintedPages pages = new HintedPages();
        for (int rule = 2; rule >= 0; rule--) {
            pages.set(0, rule);
            Check.same("rule " + rule, pages.count(10), -1);
        }
        HintedPages packed = Scenes.packed();
        for (int rule = 2; rule >= 0; rule--) {
            packed.set(0, rule);
            Check.same("all slots are valid, rule " + rule, packed.count(10), -1);
        }
    }

    /** Collecting, "as long as there are fewer free blocks than setting 1": as many are enough. */
    private static void asManyFreeBlocksAsKept() {
        HintedPages pages = Scenes.spread();
        Check.same("two are free, two are kept", pages.count(1), pages.setting(1));
        Check.same("no copies", pages.write(10, 0), 0);
        Check.same("no erasures", pages.count(8), 0);
        Check.same("one is free", pages.count(1), 1);
    }

    /** Collecting, "as long as there are fewer": one fewer, and again until there are as many. */
    private static void fewerFreeBlocksThanKept() {
        HintedPages pages = Scenes.tight();
        Check.same("one is free", pages.count(1), 1);
        // The first victim's copy takes the last free block, so that a second victim is needed.
        Check.same("two copies", pages.write(10, 0), 2);
        Check.same("two erasures", pages.count(8), 2);
        Check.same("two are free", pages.count(1), 2);
        Check.same("as many: no copies", pages.write(10, 0), 0);
        HintedPages oldAlone = Scenes.tight();
        oldAlone.trim(0);
        Check.same("no copies, one erasure", oldAlone.write(10, 0), 0);
        Check.same("one was enough", oldAlone.count(8), 1);
    }

    /** Collecting, "than setting 1": by each of its values, while it is not above the free blocks. */
    private static void moreAreKeptBySetting1() {
        int[] erasures = {0, 2, 3};
        for (int kept = 2; kept <= 4; kept++) {
            HintedPages pages = Scenes.spread();
            pages.set(1, kept);
            pages.write(39, 0);
            Check.same("erasures with " + kept + " kept", pages.count(8), erasures[kept - 2]);
            Check.same("one of them is opened", pages.count(1), kept - 1);
        }
    }

    /** Collecting, "and there is a victim": fewer free blocks than kept, but no old slot is closed. */
    private static void fewerThanKeptButNoVictim() {
        HintedPages pages = new HintedPages();
        pages.write(0, 0);
        pages.writeRow(1, 7, 0);
        trimRow(pages, 1, 7);
        pages.collect(0);
        pages.write(0, 1);
        pages.write(0, 2);
        pages.write(0, 3);
        pages.writeRow(0, 40, 0);
        pages.set(1, 4);
        Check.same("three are free", pages.count(1), 3);
        Check.same("no victim", pages.count(10), -1);
        Check.same("no copies", pages.write(39, 1), 0);
        Check.same("no erasure but the first", pages.count(8), 1);
        int victim = pages.count(10);
        Check.same("a victim: page 39 left it", pages.block(victim, 2), 7);
        Check.same("seven copies", pages.write(38, 1), 7);
        Check.same("four are free", pages.count(1), 4);
    }

    /** Collecting, "then the page gets the hint": a copy on the way has the hint before. */
    private static void hintComesBehindCollecting() {
        HintedPages pages = Scenes.tight();
        pages.write(0, 3);
        Check.same("its hint", pages.page(0, 2), 3);
        Check.same("copies with hint 0", pages.stream(0, 3), 2);
        Check.same("copies with hint 3", pages.stream(3, 3), 0);
    }

    /** Collecting, "until then its former slot stays valid, and can be copied". */
    private static void formerSlotIsValidUntilThen() {
        HintedPages pages = Scenes.tight();
        Check.same("the copy of it counts", pages.write(0, 1), 2);
        Check.same("it was copied", pages.page(0, 4), 1);
        Check.same("the copy is old", pages.slot(11, 0, false), 0);
        Check.same("and not valid", pages.slot(11, 0, true), -1);
    }

    /** Collecting, "(There always is a free block when one is needed.)": the longest runs end well. */
    private static void aFreeBlockIsAlwaysThere() {
        for (int kept = 2; kept <= 4; kept++) {
            HintedPages pages = new HintedPages();
            pages.set(1, kept);
            for (int call = 0; call < 120; call++) {
                pages.writeRow(call * 7 % 33, 8, call % 4);
                Check.same("a free block", pages.count(1) >= 1 ? 1 : 0, 1);
                int block = call % 12;
                if (pages.block(block, 0) == 2 && call % 3 == 0) {
                    pages.collect(block);
                }
            }
            Check.same("all are written", pages.count(0), 40);
        }
    }
}
