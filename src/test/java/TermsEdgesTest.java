/** The sentences of "What it is" and "Terms" that name a boundary case, a test each. */
public final class TermsEdgesTest {
    public static void main(String[] args) {
        the512thCallIsAnswered();
        firstAndLastBlockSlotAndPage();
        slotIsOldBehindRewriting();
        slotIsOldBehindTrimming();
        slotStaysOldWhenThePageComesBack();
        pageWithoutValidSlotIsNotWritten();
        hintIsThatOfTheLatestWriteOrHint();
        blockIsFreeOpenOrClosed();
        blockOfOldSlotsAloneIsNotFree();
        atFirstAllIsFree();
        fewestErasuresOpenFirst();
        ofSeveralTheLowestOpens();
        openBlockIsUsedUpFirst();
        firstBlankSlotIsProgrammed();
        formerSlotBecomesOld();
        fullBlockIsClosedAtOnce();
        Check.end("TermsEdgesTest");
    }

    /** What it is, "An object is used for at most 512 calls": the last of them answers as the first. */
    private static void the512thCallIsAnswered() {
        HintedPages pages = new HintedPages();
        for (int call = 1; call <= 511; call++) {
            pages.write(call % 40, call % 4);
        }
        Check.same("the 512th call", pages.count(6), 511);
        HintedPages undone = new HintedPages();
        for (int call = 1; call <= 511; call++) {
            undone.tidy(12);
        }
        Check.same("the 512th call undoes", undone.undo(), 5);
    }

    /** Blocks, "12 blocks, numbered from 0, with 8 slots each, and 40 pages": all ends can be used. */
    private static void firstAndLastBlockSlotAndPage() {
        HintedPages pages = Scenes.tight();
        Check.same("block 0, slot 0", pages.slot(0, 0, true), 0);
        Check.same("block 9, slot 7", pages.slot(9, 7, true), 39);
        for (int block = 0; block < 8; block++) {
            pages.collect(block);
        }
        Check.same("block 11, slot 0", pages.slot(11, 0, true), 0);
        Check.same("block 11, slot 7", pages.slot(11, 7, true), 7);
        Check.same("page 7 in block 11", pages.page(7, 0), 11);
        Check.same("page 7 in slot 7", pages.page(7, 1), 7);
        Check.same("eight slots", pages.block(11, 2), 8);
        Check.same("all slots of a new object", new HintedPages().count(5), 96);
    }

    /** Blocks, "valid, if it is where this page was programmed last ..., or old": programmed anew. */
    private static void slotIsOldBehindRewriting() {
        HintedPages pages = new HintedPages();
        pages.write(39, 0);
        Check.same("valid", pages.slot(0, 0, true), 39);
        pages.write(39, 3);
        Check.same("old", pages.slot(0, 0, true), -1);
        Check.same("old, not blank", pages.slot(0, 0, false), 39);
        Check.same("valid elsewhere", pages.slot(1, 0, true), 39);
        Check.same("one old slot", pages.count(4), 1);
    }

    /** Blocks, "... and the page was not trimmed since, or old": trimmed. */
    private static void slotIsOldBehindTrimming() {
        HintedPages pages = new HintedPages();
        pages.write(0, 0);
        pages.trim(0);
        Check.same("old", pages.slot(0, 0, true), -1);
        Check.same("old, not blank", pages.slot(0, 0, false), 0);
        Check.same("valid slots", pages.block(0, 2), 0);
        Check.same("old slots", pages.block(0, 3), 1);
        Check.same("blank slots", pages.block(0, 4), 7);
    }

    /** Blocks, "... where this page was programmed last": a slot that is old stays old. */
    private static void slotStaysOldWhenThePageComesBack() {
        HintedPages pages = new HintedPages();
        pages.write(5, 1);
        pages.trim(5);
        pages.write(5, 1);
        Check.same("the first stays old", pages.slot(0, 0, true), -1);
        Check.same("the second is valid", pages.slot(0, 1, true), 5);
        Check.same("one old slot, not two", pages.block(0, 3), 1);
        pages.trim(5);
        Check.same("two old slots", pages.block(0, 3), 2);
    }

    /** Blocks, "A page is written, if it has a valid slot". */
    private static void pageWithoutValidSlotIsNotWritten() {
        HintedPages pages = new HintedPages();
        Check.same("never written", pages.page(5, 0), -1);
        pages.write(5, 1);
        Check.same("written", pages.count(0), 1);
        pages.write(5, 2);
        Check.same("written once more, one page", pages.count(0), 1);
        pages.trim(5);
        Check.same("trimmed", pages.count(0), 0);
        Check.same("trimmed: no hint", pages.page(5, 2), -1);
        pages.write(5, 3);
        Check.same("written again", pages.count(0), 1);
    }

    /** Blocks, "A written page has the hint, 0 to 3, of its latest write or hint()". */
    private static void hintIsThatOfTheLatestWriteOrHint() {
        HintedPages pages = new HintedPages();
        pages.write(5, 0);
        Check.same("of the write", pages.page(5, 2), 0);
        pages.hint(5, 3);
        Check.same("of hint()", pages.page(5, 2), 3);
        pages.write(5, 1);
        Check.same("of the latest write", pages.page(5, 2), 1);
        pages.hint(5, 2);
        pages.trim(5);
        pages.write(5, 0);
        Check.same("of the write behind a trim", pages.page(5, 2), 0);
    }

    /** Blocks, "A block is free (all slots are blank), open, or closed": with 0, 1, 7 and 8 slots. */
    private static void blockIsFreeOpenOrClosed() {
        HintedPages pages = new HintedPages();
        Check.same("no slot: free", pages.block(0, 0), 0);
        pages.write(0, 0);
        Check.same("one slot: open", pages.block(0, 0), 1);
        pages.writeRow(1, 6, 0);
        Check.same("seven slots: open", pages.block(0, 0), 1);
        pages.write(7, 0);
        Check.same("eight slots: closed", pages.block(0, 0), 2);
        pages.collect(0);
        Check.same("erased: free", pages.block(0, 0), 0);
    }

    /** Blocks, "free (all slots are blank)": old slots are not blank. */
    private static void blockOfOldSlotsAloneIsNotFree() {
        HintedPages pages = new HintedPages();
        pages.write(0, 0);
        pages.trim(0);
        Check.same("open with old slots alone", pages.block(0, 0), 1);
        pages.writeRow(1, 7, 0);
        for (int page = 1; page <= 7; page++) {
            pages.trim(page);
        }
        Check.same("closed with old slots alone", pages.block(0, 0), 2);
        Check.same("no valid slot", pages.block(0, 2), 0);
        Check.same("eleven free blocks", pages.count(1), 11);
    }

    /** Blocks, "at first none. At first all blocks are free". */
    private static void atFirstAllIsFree() {
        HintedPages pages = new HintedPages();
        for (int stream = 0; stream <= 4; stream++) {
            Check.same("stream " + stream, pages.stream(stream, 0), -1);
        }
        for (int block = 0; block <= 11; block++) {
            Check.same("block " + block, pages.block(block, 0), 0);
            Check.same("blank slots", pages.block(block, 4), 8);
            Check.same("erasures", pages.block(block, 5), 0);
        }
    }

    /** Programming, "the free block with the fewest erasures ... becomes its open block". */
    private static void fewestErasuresOpenFirst() {
        HintedPages pages = new HintedPages();
        pages.writeRow(0, 8, 0);
        pages.collect(0);
        Check.same("copied ahead of the erasure", pages.page(0, 0), 1);
        pages.write(20, 1);
        Check.same("not block 0, which was erased", pages.page(20, 0), 2);
        pages.writeRow(8, 32, 0);
        pages.writeRow(0, 32, 2);
        Check.same("blocks 0 and 11 are free", pages.count(1), 2);
        Check.same("block 0 is the lower one", pages.block(0, 0), 0);
        pages.write(0, 3);
        Check.same("but the other was never erased", pages.page(0, 0), 11);
    }

    /** Programming, "of several the lowest one": of those without erasures, and of those with one. */
    private static void ofSeveralTheLowestOpens() {
        HintedPages pages = new HintedPages();
        for (int block = 0; block <= 11; block++) {
            pages.writeRow(0, 8, 0);
            Check.same("none was erased", pages.page(0, 0), block);
            for (int page = 0; page < 8; page++) {
                pages.trim(page);
            }
            pages.collect(block);
        }
        pages.write(0, 3);
        pages.write(1, 2);
        Check.same("all were erased once", pages.page(0, 0), 0);
        Check.same("the next lowest", pages.page(1, 0), 1);
    }

    /** Programming, "if the stream has no open block": if it has one, that is used. */
    private static void openBlockIsUsedUpFirst() {
        HintedPages pages = new HintedPages();
        pages.write(20, 1);
        pages.write(21, 2);
        pages.writeRow(0, 8, 0);
        pages.collect(2);
        pages.write(22, 2);
        Check.same("the open block of stream 2", pages.page(22, 0), 1);
        Check.same("its next slot", pages.page(22, 1), 1);
        pages.write(23, 1);
        Check.same("the open block of stream 1", pages.page(23, 0), 0);
        Check.same("open blocks", pages.count(2), 2);
    }

    /** Programming, "into the first blank slot of the open block": an old slot is not blank. */
    private static void firstBlankSlotIsProgrammed() {
        HintedPages pages = new HintedPages();
        for (int slot = 0; slot < 8; slot++) {
            pages.write(30, 2);
            Check.same("slot " + slot, pages.page(30, 1), slot);
            if (slot % 3 == 0) {
                pages.trim(30);
            }
        }
        pages.write(30, 2);
        Check.same("slot 0 of the next block", pages.page(30, 0) * 8 + pages.page(30, 1), 8);
    }

    /** Programming, "its former slot, if it was written, becomes old": and none if it was not. */
    private static void formerSlotBecomesOld() {
        HintedPages pages = new HintedPages();
        pages.write(0, 0);
        Check.same("never written: no old slot", pages.count(4), 0);
        pages.write(0, 0);
        Check.same("in the same block", pages.block(0, 3), 1);
        pages.write(0, 1);
        Check.same("in another block", pages.block(0, 3), 2);
        Check.same("none in the new one", pages.block(1, 3), 0);
        pages.trim(0);
        pages.write(0, 1);
        Check.same("trimmed: no other slot becomes old", pages.count(4), 3);
    }

    /** Programming, "if there is no blank slot left, the block is closed, and ... no open block". */
    private static void fullBlockIsClosedAtOnce() {
        HintedPages pages = new HintedPages();
        pages.writeRow(0, 7, 3);
        Check.same("one blank slot is left: open", pages.stream(3, 0), 0);
        Check.same("no closed block", pages.count(3), 0);
        pages.write(7, 3);
        Check.same("none is left: no open block", pages.stream(3, 0), -1);
        Check.same("a closed block", pages.count(3), 1);
        Check.same("the next is opened later", pages.count(1), 11);
    }
}
