/** Promises 1 to 5: a new object, write, writeRow, trim, hint. */
public final class PagesTest {
    public static void main(String[] args) {
        newObject();
        newObjectsShareNothing();
        writeProgramsSlotBySlot();
        writeOpensTheBlockWithFewestErasures();
        writeMakesTheFormerSlotOld();
        writeCollectsFirst();
        writeCopiesThePageThatItWrites();
        writeKeepsAsManyFreeBlocksAsSet();
        writeRow();
        trim();
        hint();
        Check.end("PagesTest");
    }

    private static void newObject() {
        Looks looks = Looks.of(HintedPages::new);
        Check.same("NONE", HintedPages.NONE, -1);
        int[] counts = {0, 12, 0, 0, 0, 96, 0, 0, 0, 0, -1, 0};
        for (int what = 0; what < counts.length; what++) {
            Check.same("new count " + what, looks.count(what), counts[what]);
        }
        int[] ofBlock = {0, -1, 0, 0, 8, 0, -1, 0};
        for (int block = 0; block < 12; block++) {
            for (int what = 0; what < ofBlock.length; what++) {
                Check.same("new block " + block + ", " + what, looks.block(block, what), ofBlock[what]);
            }
            for (int slot = 0; slot < 8; slot++) {
                Check.same("new slot", looks.slot(block, slot, false), -1);
                Check.same("new valid slot", looks.slot(block, slot, true), -1);
            }
        }
        int[] ofPage = {-1, -1, -1, 0, 0, 0};
        for (int page = 0; page < 40; page++) {
            for (int what = 0; what < ofPage.length; what++) {
                Check.same("new page " + page + ", " + what, looks.page(page, what), ofPage[what]);
            }
        }
        int[] ofStream = {-1, 0, 0, 0, 0};
        for (int stream = 0; stream < 5; stream++) {
            for (int what = 0; what < ofStream.length; what++) {
                Check.same("new stream", looks.stream(stream, what), ofStream[what]);
            }
        }
        Check.same("new setting 0", looks.setting(0), 0);
        Check.same("new setting 1", looks.setting(1), 2);
        Check.same("new firstError", new HintedPages().firstError(), 0);
        Check.same("new clearBuffer", new HintedPages().clearBuffer(), 0);
    }

    private static void newObjectsShareNothing() {
        HintedPages one = new HintedPages();
        HintedPages other = new HintedPages();
        one.write(3, 1);
        one.append('7');
        one.set(1, 3);
        Check.same("another object", other.digest(), new HintedPages().digest());
    }

    private static void writeProgramsSlotBySlot() {
        HintedPages pages = new HintedPages();
        for (int i = 0; i < 8; i++) {
            Check.same("open stream", pages.stream(3, 0), i == 0 ? -1 : 0);
            Check.same("write copies none", pages.write(39 - i, 3), 0);
            Check.same("block of the page", pages.page(39 - i, 0), 0);
            Check.same("slot of the page", pages.page(39 - i, 1), i);
            Check.same("hint of the page", pages.page(39 - i, 2), 3);
            Check.same("page of the slot", pages.slot(0, i, true), 39 - i);
        }
        Check.same("full block is closed", pages.block(0, 0), 2);
        Check.same("its stream has none open", pages.stream(3, 0), -1);
        pages.write(0, 0);
        pages.write(1, 3);
        Check.same("next free block", pages.page(0, 0), 1);
        Check.same("each stream has its own", pages.page(1, 0), 2);
        Check.same("opened for stream 0", pages.block(1, 1), 0);
        Check.same("opened for stream 3", pages.block(2, 1), 3);
    }

    private static void writeOpensTheBlockWithFewestErasures() {
        HintedPages pages = new HintedPages();
        pages.writeRow(0, 8, 0);
        pages.writeRow(0, 8, 0);
        pages.collect(0);
        pages.writeRow(0, 8, 0);
        Check.same("the erased block 0 waits", pages.page(0, 0), 2);
        pages.collect(2);
        Check.same("copies go to one without erasures", pages.page(7, 0), 3);
        for (int block = 4; block < 12; block++) {
            pages.writeRow(0, 8, 1);
            Check.same("those without erasures come first", pages.page(0, 0), block);
            pages.collect(block - 1);
        }
        pages.collect(1);
        pages.writeRow(0, 8, 1);
        Check.same("of those with one erasure, the lowest", pages.page(0, 0), 0);
    }

    private static void writeMakesTheFormerSlotOld() {
        HintedPages pages = new HintedPages();
        pages.write(5, 0);
        pages.write(5, 0);
        Check.same("old slot keeps its page", pages.slot(0, 0, false), 5);
        Check.same("old slot is not valid", pages.slot(0, 0, true), -1);
        Check.same("valid slot", pages.slot(0, 1, true), 5);
        Check.same("valid slots", pages.block(0, 2), 1);
        Check.same("old slots", pages.block(0, 3), 1);
        pages.write(5, 2);
        Check.same("no valid slot is left", pages.block(0, 2), 0);
        Check.same("the new hint", pages.page(5, 2), 2);
        Check.same("written thrice", pages.page(5, 3), 3);
    }

    private static void writeCollectsFirst() {
        HintedPages pages = Scenes.spread();
        Check.same("two free blocks are kept", pages.write(10, 0), 0);
        Check.same("one is free now", pages.count(1), 1);
        Check.same("the next write copies", pages.write(39, 0), 2);
        Check.same("from block 0 into block 11", pages.page(0, 0), 11);
        Check.same("by ascending slots", pages.page(1, 1), 1);
        Check.same("copied with its hint", pages.page(0, 2), 0);
        Check.same("opened for copies", pages.block(11, 1), 4);
        Check.same("block 0 is erased", pages.block(0, 5), 1);
        Check.same("block 0 is free", pages.block(0, 0), 0);
        Check.same("block 0 is blank", pages.slot(0, 0, false), -1);
        Check.same("block 2 waits", pages.block(2, 5), 0);
        Check.same("the page itself", pages.page(39, 0), 10);
        Check.same("writes", pages.count(6), 82);
        Check.same("copies", pages.count(7), 2);
        Check.same("erasures", pages.count(8), 2);
    }

    private static void writeCopiesThePageThatItWrites() {
        HintedPages pages = Scenes.tight();
        Check.same("page 0 is copied, then written", pages.write(0, 3), 2);
        Check.same("into the first erased block", pages.page(0, 0), 0);
        Check.same("its copy is old", pages.slot(11, 0, true), -1);
        Check.same("its copy was page 0", pages.slot(11, 0, false), 0);
        Check.same("it was copied once", pages.page(0, 4), 1);
        Check.same("not since this write", pages.page(0, 5), 0);
        Check.same("page 1 was", pages.page(1, 5), 1);
        Check.same("copied with the hint before", pages.stream(0, 3), 2);
        Check.same("not with the new one", pages.stream(3, 3), 0);
    }

    private static void writeKeepsAsManyFreeBlocksAsSet() {
        HintedPages pages = Scenes.spread();
        pages.set(1, 4);
        Check.same("two more are collected", pages.write(39, 1), 3);
        Check.same("four were free, one was opened", pages.count(1), 3);
    }

    private static void writeRow() {
        HintedPages pages = new HintedPages();
        Check.same("row", pages.writeRow(30, 10, 2), 0);
        for (int i = 0; i < 10; i++) {
            Check.same("by ascending numbers", pages.page(30 + i, 0) * 8 + pages.page(30 + i, 1), i);
            Check.same("each with the hint", pages.page(30 + i, 2), 2);
        }
        Check.same("one saved state", pages.count(11), 1);
        Check.same("no page ahead", pages.page(29, 0), -1);
        Check.same("one page", pages.writeRow(39, 1, 0), 0);
        Check.same("all pages", pages.writeRow(0, 40, 3), 0);
        Check.same("written pages", pages.count(0), 40);
        HintedPages tight = Scenes.tight();
        Check.same("a row copies", tight.writeRow(38, 2, 0), 2);
        Check.same("a long row copies", Scenes.tight().writeRow(0, 10, 1), 3);
    }

    private static void trim() {
        HintedPages pages = Scenes.tight();
        pages.collect(5);
        Check.same("copied page", pages.page(5, 5), 1);
        Check.same("trim tells the block", pages.trim(5), 11);
        Check.same("no block", pages.page(5, 0), -1);
        Check.same("no slot", pages.page(5, 1), -1);
        Check.same("no hint", pages.page(5, 2), -1);
        Check.same("written before", pages.page(5, 3), 1);
        Check.same("copied before", pages.page(5, 4), 1);
        Check.same("not since a write", pages.page(5, 5), 0);
        Check.same("old slot", pages.slot(11, 0, false), 5);
        Check.same("not valid", pages.slot(11, 0, true), -1);
        Check.same("old slots", pages.block(11, 3), 1);
        Check.same("valid slots", pages.block(11, 2), 0);
        Check.same("no more", pages.trim(5), -1);
        pages.write(39, 1);
        Check.same("written again", pages.page(39, 2), 1);
    }

    private static void hint() {
        HintedPages pages = Scenes.tight();
        Check.same("previous hint", pages.hint(0, 3), 0);
        Check.same("new hint", pages.page(0, 2), 3);
        Check.same("it stays", pages.page(0, 0), 0);
        Check.same("it is not programmed", pages.page(0, 3), 1);
        Check.same("previous again", pages.hint(0, 3), 3);
        Check.same("and another", pages.hint(0, 1), 3);
        pages.collect(0);
        Check.same("copied with the hint that it has", pages.stream(1, 3), 1);
        Check.same("and not with that of its write", pages.stream(0, 3), 0);
    }
}
