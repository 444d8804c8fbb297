/** The sentences of the promises 14 to 19 that name a boundary case, a test each. */
public final class LooksEdgesTest {
    public static void main(String[] args) {
        pageRange();
        pageWhatRange();
        pageThrowsTheFirstNamed();
        pageIsNoneIfNotWritten();
        pageCountsStayBehindTrim();
        pageCopiesSinceTheLatestWrite();
        blockRange();
        blockWhatRange();
        blockThrowsTheFirstNamed();
        blockStateAndStream();
        blockSlotsFromNoneToAll();
        blockErasures();
        blockClosedAhead();
        blockUnlikeHints();
        slotBlockRange();
        slotRange();
        slotIsNoneIfBlankOrNotValid();
        streamRange();
        streamWhatRange();
        streamThrowsTheFirstNamed();
        streamOpenBlockOrNone();
        streamIs0ForTheStream4();
        streamShareIs0WithoutPages();
        streamShareIsRoundedDown();
        countWhatRange();
        countWrittenPages();
        countBlocks();
        countSlots();
        countEachTime();
        countSpreadOfErasures();
        countVictimOrNone();
        countSavedStates();
        settingRange();
        looksChangeNothing();
        Check.end("LooksEdgesTest");
    }

    /** Promise 14, "page: 0 to 39" and "if there is no such page". */
    private static void pageRange() {
        for (int what = 0; what <= 5; what++) {
            int property = what;
            Check.range("page's page", Check.INDEX, Scenes::few, 0, 39, (pages, page) -> pages.page(page, property));
        }
    }

    /** Promise 14, "if what is not 0 to 5". */
    private static void pageWhatRange() {
        Check.range("page's what", Check.ARGUMENT, Scenes::few, 0, 5, (pages, what) -> pages.page(39, what));
        Check.range("not written", Check.ARGUMENT, Scenes::few, 0, 5, (pages, what) -> pages.page(20, what));
    }

    /** Promise 14, with "the one that is named first". */
    private static void pageThrowsTheFirstNamed() {
        Check.refused("page(40, 6)", Check.INDEX, Scenes::few, pages -> pages.page(40, 6));
        Check.refused("page(-1, -1)", Check.INDEX, Scenes::few, pages -> pages.page(-1, -1));
    }

    private static void ofPage(HintedPages pages, int page, int... due) {
        for (int what = 0; what < due.length; what++) {
            Check.same("page(" + page + ", " + what + ")", pages.page(page, what), due[what]);
        }
    }

    /** Promise 14, "NONE for 0 to 2 if it is not written": never, and trimmed; 3 to 5 are 0. */
    private static void pageIsNoneIfNotWritten() {
        HintedPages pages = new HintedPages();
        ofPage(pages, 0, -1, -1, -1, 0, 0, 0);
        ofPage(pages, 39, -1, -1, -1, 0, 0, 0);
        pages.write(0, 0);
        ofPage(pages, 0, 0, 0, 0, 1, 0, 0);
        pages.trim(0);
        ofPage(pages, 0, -1, -1, -1, 1, 0, 0);
    }

    /** Promise 14, "how often it was written so far", "... copied so far": trimming takes none away. */
    private static void pageCountsStayBehindTrim() {
        HintedPages pages = Scenes.packed();
        pages.collect(0);
        pages.collect(5);
        ofPage(pages, 7, 6, 7, 0, 1, 2, 2);
        pages.trim(7);
        ofPage(pages, 7, -1, -1, -1, 1, 2, 0);
        pages.write(7, 3);
        ofPage(pages, 7, 7, 0, 3, 2, 2, 0);
    }

    /** Promise 14, "copies since its latest write, 0 if it is not written": 0 behind each write. */
    private static void pageCopiesSinceTheLatestWrite() {
        HintedPages pages = Scenes.packed();
        Check.same("written", pages.page(0, 5), 0);
        pages.collect(0);
        Check.same("copied", pages.page(0, 5), 1);
        pages.hint(0, 3);
        Check.same("hint() is no write", pages.page(0, 5), 1);
        pages.write(0, 1);
        Check.same("written again", pages.page(0, 5), 0);
        Check.same("so far", pages.page(0, 4), 1);
        HintedPages tight = Scenes.tight();
        tight.write(0, 1);
        ofPage(tight, 0, 0, 0, 1, 2, 1, 0);
        ofPage(tight, 1, 11, 1, 0, 1, 1, 1);
        tight.trim(1);
        Check.same("not written", tight.page(1, 5), 0);
        tight.write(1, 1);
        Check.same("written anew", tight.page(1, 5), 0);
    }

    /** Promise 15, "block: 0 to 11" and "if there is no such block". */
    private static void blockRange() {
        for (int what = 0; what <= 7; what++) {
            int property = what;
            Check.range("block's block", Check.INDEX, Scenes::few, 0, 11, (pages, block) -> pages.block(block, property));
        }
    }

    /** Promise 15, "if what is not 0 to 7": of a closed block, an open and a free one. */
    private static void blockWhatRange() {
        for (int block = 9; block <= 11; block++) {
            int number = block;
            Check.range("block's what", Check.ARGUMENT, Scenes::few, 0, 7, (pages, what) -> pages.block(number, what));
        }
    }

    /** Promise 15, with "the one that is named first". */
    private static void blockThrowsTheFirstNamed() {
        Check.refused("block(12, 8)", Check.INDEX, Scenes::few, pages -> pages.block(12, 8));
        Check.refused("block(-1, -1)", Check.INDEX, Scenes::few, pages -> pages.block(-1, -1));
    }

    private static void ofBlock(HintedPages pages, int block, int... due) {
        for (int what = 0; what < due.length; what++) {
            Check.same("block(" + block + ", " + what + ")", pages.block(block, what), due[what]);
        }
    }

    /** Promise 15, "0 if it is free, 1 open, 2 closed" and "NONE if it is free": the stream stays. */
    private static void blockStateAndStream() {
        HintedPages pages = new HintedPages();
        ofBlock(pages, 0, 0, -1);
        pages.write(0, 3);
        ofBlock(pages, 0, 1, 3);
        pages.writeRow(1, 7, 3);
        ofBlock(pages, 0, 2, 3);
        pages.collect(0);
        ofBlock(pages, 0, 0, -1);
        ofBlock(pages, 1, 2, 4);
        pages.write(8, 0);
        ofBlock(pages, 2, 1, 0);
        ofBlock(pages, 11, 0, -1);
    }

    /** Promise 15, "2: valid slots; 3: old slots; 4: blank slots": from none to all eight. */
    private static void blockSlotsFromNoneToAll() {
        HintedPages pages = new HintedPages();
        for (int used = 0; used < 8; used++) {
            ofBlock(pages, 0, used == 0 ? 0 : 1, used == 0 ? -1 : 2, used, 0, 8 - used);
            pages.write(used, 2);
        }
        for (int old = 0; old < 8; old++) {
            ofBlock(pages, 0, 2, 2, 8 - old, old, 0);
            pages.trim(old);
        }
        ofBlock(pages, 0, 2, 2, 0, 8, 0);
        pages.collect(0);
        ofBlock(pages, 0, 0, -1, 0, 0, 8);
    }

    /** Promise 15, "5: its erasures": 0 at first, and not those of others. */
    private static void blockErasures() {
        HintedPages pages = Scenes.packed();
        Check.same("at first", pages.block(4, 5), 0);
        pages.collect(4);
        Check.same("erased", pages.block(4, 5), 1);
        Check.same("its neighbour is not", pages.block(3, 5), 0);
        Check.same("nor the block of copies", pages.block(5, 5), 0);
    }

    /** Promise 15, "6: how many closed blocks were closed ahead of it, NONE if it is not closed". */
    private static void blockClosedAhead() {
        HintedPages pages = new HintedPages();
        Check.same("free", pages.block(0, 6), -1);
        pages.writeRow(0, 7, 0);
        Check.same("open", pages.block(0, 6), -1);
        pages.write(7, 0);
        Check.same("closed, none ahead", pages.block(0, 6), 0);
        pages.writeRow(0, 40, 1);
        Check.same("the last, five ahead", pages.block(5, 6), 5);
        pages.collect(0);
        Check.same("erased blocks don't count", pages.block(5, 6), 4);
        Check.same("erased", pages.block(0, 6), -1);
        Check.same("now the first", pages.block(1, 6), 0);
    }

    /** Promise 15, "7: unlike hints of its valid pages": from none to four. */
    private static void blockUnlikeHints() {
        HintedPages pages = new HintedPages();
        Check.same("free", pages.block(0, 7), 0);
        pages.writeRow(0, 4, 2);
        Check.same("all alike", pages.block(0, 7), 1);
        for (int hint = 0; hint <= 3; hint++) {
            pages.hint(hint, hint);
        }
        Check.same("all unlike", pages.block(0, 7), 4);
        for (int page = 0; page <= 3; page++) {
            pages.trim(page);
            Check.same("valid ones alone", pages.block(0, 7), 3 - page);
        }
        Check.same("old slots alone", pages.block(0, 3), 4);
    }

    /** Promise 16, "block: 0 to 11" and "if there is no such block". */
    private static void slotBlockRange() {
        Check.range("slot's block", Check.INDEX, Scenes::few, 0, 11, (pages, block) -> pages.slot(block, 0, true));
        Check.range("slot's block", Check.INDEX, Scenes::few, 0, 11, (pages, block) -> pages.slot(block, 7, false));
    }

    /** Promise 16, "slot: 0 to 7" and "if there is no such ... slot": in the first and the last block. */
    private static void slotRange() {
        Check.range("slot", Check.INDEX, Scenes::few, 0, 7, (pages, slot) -> pages.slot(0, slot, false));
        Check.range("slot", Check.INDEX, Scenes::few, 0, 7, (pages, slot) -> pages.slot(0, slot, true));
        Check.range("slot", Check.INDEX, Scenes::few, 0, 7, (pages, slot) -> pages.slot(11, slot, false));
        Check.refused("slot(1, -1)", Check.INDEX, Scenes::few, pages -> pages.slot(1, -1, true));
        Check.refused("slot(12, 8)", Check.INDEX, Scenes::few, pages -> pages.slot(12, 8, true));
    }

    /** Promise 16, "NONE if it is blank (or not valid)": valid, old by writing, old by trimming, blank. */
    private static void slotIsNoneIfBlankOrNotValid() {
        HintedPages pages = new HintedPages();
        pages.write(0, 1);
        pages.write(39, 1);
        pages.write(39, 1);
        pages.write(5, 1);
        pages.trim(5);
        int[] any = {0, 39, 39, 5, -1, -1, -1, -1};
        int[] valid = {0, -1, 39, -1, -1, -1, -1, -1};
        for (int slot = 0; slot < 8; slot++) {
            Check.same("any, slot " + slot, pages.slot(0, slot, false), any[slot]);
            Check.same("valid, slot " + slot, pages.slot(0, slot, true), valid[slot]);
        }
        Check.same("a free block", pages.slot(11, 7, false), -1);
    }

    /** Promise 17, "stream: 0 to 4" and "if there is no such stream". */
    private static void streamRange() {
        for (int what = 0; what <= 4; what++) {
            int property = what;
            Check.range("stream", Check.INDEX, Scenes::few, 0, 4, (pages, stream) -> pages.stream(stream, property));
        }
    }

    /** Promise 17, "if what is not 0 to 4": of the first and the last stream. */
    private static void streamWhatRange() {
        Check.range("stream's what", Check.ARGUMENT, Scenes::few, 0, 4, (pages, what) -> pages.stream(0, what));
        Check.range("stream's what", Check.ARGUMENT, Scenes::few, 0, 4, (pages, what) -> pages.stream(4, what));
    }

    /** Promise 17, with "the one that is named first". */
    private static void streamThrowsTheFirstNamed() {
        Check.refused("stream(5, 5)", Check.INDEX, Scenes::few, pages -> pages.stream(5, 5));
        Check.refused("stream(-1, -1)", Check.INDEX, Scenes::few, pages -> pages.stream(-1, -1));
    }

    /** Promise 17, "0: its open block, NONE without one": each stream has its own. */
    private static void streamOpenBlockOrNone() {
        HintedPages pages = new HintedPages();
        for (int stream = 0; stream <= 3; stream++) {
            Check.same("none", pages.stream(stream, 0), -1);
            pages.writeRow(0, 7, stream);
            Check.same("its own", pages.stream(stream, 0), stream);
            Check.same("programmed for it", pages.stream(stream, 1), 7);
        }
        for (int stream = 0; stream <= 3; stream++) {
            pages.write(7, stream);
            Check.same("closed", pages.stream(stream, 0), -1);
        }
        pages.collect(3);
        Check.same("for copies: full at once", pages.stream(4, 0), -1);
        pages.trim(0);
        pages.collect(4);
        Check.same("for copies: seven", pages.stream(4, 0), 5);
    }

    /** Promise 17, "2: ..., 0 for the stream 4; 3: ..., 0 for the stream 4". */
    private static void streamIs0ForTheStream4() {
        HintedPages pages = Scenes.packed();
        pages.collect(0);
        pages.collect(1);
        pages.trim(39);
        int[][] due = {{-1, 40, 39, 16, 140}, {-1, 0, 0, 0, 0}, {-1, 0, 0, 0, 0}, {-1, 0, 0, 0, 0}, {-1, 16, 0, 0, 100}};
        for (int stream = 0; stream <= 4; stream++) {
            for (int what = 0; what <= 4; what++) {
                Check.same("stream(" + stream + ", " + what + ")", pages.stream(stream, what), due[stream][what]);
            }
        }
    }

    /** Promise 17, "0 if that is 0": no page was programmed for it, though some of its hint were copied. */
    private static void streamShareIs0WithoutPages() {
        HintedPages pages = Scenes.packed();
        Check.same("nothing", pages.stream(3, 4), 0);
        Check.same("nothing for copies", pages.stream(4, 4), 0);
        pages.hint(0, 3);
        pages.collect(0);
        Check.same("a copy with its hint", pages.stream(3, 3), 1);
        Check.same("divided by 0", pages.stream(3, 4), 0);
        pages.write(0, 3);
        Check.same("divided by 1", pages.stream(3, 4), 200);
    }

    /** Terms, "divisions are rounded down": 100 times 6 + 2, divided by 6. */
    private static void streamShareIsRoundedDown() {
        HintedPages pages = new HintedPages();
        pages.writeRow(0, 6, 0);
        Check.same("100", pages.stream(0, 4), 100);
        pages.writeRow(10, 8, 1);
        pages.hint(10, 0);
        pages.hint(11, 0);
        pages.collect(1);
        Check.same("133 and a third", pages.stream(0, 4), 133);
        Check.same("175", pages.stream(1, 4), 175);
        pages.write(6, 0);
        Check.same("128 and four sevenths", pages.stream(0, 4), 128);
    }

    /** Promise 18, "if what is not 0 to 11". */
    private static void countWhatRange() {
        Check.range("count", Check.ARGUMENT, Scenes::few, 0, 11, HintedPages::count);
        Check.range("count of a new object", Check.ARGUMENT, HintedPages::new, 0, 11, HintedPages::count);
    }

    /** Promise 18, "0: written pages": from none to all 40. */
    private static void countWrittenPages() {
        HintedPages pages = new HintedPages();
        for (int page = 0; page < 40; page++) {
            Check.same("written", pages.count(0), page);
            pages.write(page, page % 4);
            pages.write(page, 0);
        }
        Check.same("all", pages.count(0), 40);
    }

    /** Promise 18, "1: free blocks; 2: open blocks; 3: closed blocks": all twelve, the streams' five. */
    private static void countBlocks() {
        HintedPages pages = new HintedPages();
        ofBlocks(pages, 12, 0, 0);
        pages.writeRow(0, 7, 0);
        ofBlocks(pages, 11, 1, 0);
        pages.write(7, 0);
        ofBlocks(pages, 11, 0, 1);
        pages.trim(0);
        pages.collect(0);
        ofBlocks(pages, 11, 1, 0);
        for (int hint = 0; hint <= 3; hint++) {
            pages.write(20 + hint, hint);
        }
        ofBlocks(pages, 7, 5, 0);
        pages.write(0, 0);
        ofBlocks(pages, 7, 5, 0);
    }

    private static void ofBlocks(HintedPages pages, int... due) {
        for (int i = 0; i < 3; i++) {
            Check.same("count(" + (1 + i) + ")", pages.count(1 + i), due[i]);
        }
    }

    /** Promise 18, "4: old slots; 5: blank slots": none, and all 96; those of open blocks too. */
    private static void countSlots() {
        HintedPages pages = new HintedPages();
        ofSlots(pages, 0, 96);
        pages.write(0, 0);
        ofSlots(pages, 0, 95);
        pages.trim(0);
        ofSlots(pages, 1, 95);
        pages.writeRow(0, 7, 0);
        ofSlots(pages, 1, 88);
        pages.collect(0);
        ofSlots(pages, 0, 89);
    }

    private static void ofSlots(HintedPages pages, int old, int blank) {
        Check.same("old", pages.count(4), old);
        Check.same("blank", pages.count(5), blank);
    }

    /** Promise 18, "6: pages that were written so far, each time; 7: copies so far; 8: erasures so far". */
    private static void countEachTime() {
        HintedPages pages = new HintedPages();
        pages.writeRow(0, 8, 0);
        pages.writeRow(0, 8, 0);
        Scenes.type(pages, "0;0-1");
        pages.writeAll();
        Check.same("writes", pages.count(6), 19);
        Check.same("copies", pages.count(7), 0);
        pages.collect(1);
        Check.same("copies are no writes", pages.count(6), 19);
        Check.same("copies", pages.count(7), 6);
        Check.same("erasures", pages.count(8), 1);
        pages.collect(0);
        Check.same("no copies", pages.count(7), 6);
        Check.same("erasures", pages.count(8), 2);
        pages.trim(0);
        Check.same("trimming is none of them", pages.count(6) + pages.count(7) + pages.count(8), 27);
    }

    /** Promise 18, "the greatest number of erasures of a block less the least one": first, last, all. */
    private static void countSpreadOfErasures() {
        HintedPages pages = new HintedPages();
        Check.same("at first", pages.count(9), 0);
        for (int block = 0; block < 12; block++) {
            useUp(pages, block);
            Check.same("one less none, but of all one", pages.count(9), block < 11 ? 1 : 0);
        }
        HintedPages first = new HintedPages();
        first.writeRow(10, 8, 0);
        for (int block = 1; block < 12; block++) {
            useUp(first, block);
            Check.same("the first one was never erased", first.count(9), 1);
        }
        for (int block = 0; block < 10; block++) {
            HintedPages one = Scenes.spread();
            one.collect(block);
            Check.same("one alone, less none", one.count(9), 1);
        }
    }

    /** Fills this block, which is the next that is opened, trims its pages and collects it. */
    private static void useUp(HintedPages pages, int block) {
        pages.writeRow(0, 8, 0);
        for (int page = 0; page < 8; page++) {
            pages.trim(page);
        }
        Check.same("no copies", pages.collect(block), 0);
    }

    /** Promise 18, "10: the victim, NONE if there is none". */
    private static void countVictimOrNone() {
        Check.same("new", new HintedPages().count(10), -1);
        Check.same("packed", Scenes.packed().count(10), -1);
        Check.same("block 0", Scenes.tight().count(10), 0);
        HintedPages last = Scenes.tight();
        for (int block = 0; block < 8; block++) {
            last.collect(block);
        }
        last.tidy(12);
        last.trim(7);
        Check.same("block 11", last.count(10), 11);
    }

    /** Promise 18, "11: saved states": from none to six. */
    private static void countSavedStates() {
        HintedPages pages = new HintedPages();
        for (int saved = 0; saved <= 6; saved++) {
            Check.same("saved", pages.count(11), saved);
            pages.tidy(1);
        }
        Check.same("six at most", pages.count(11), 6);
    }

    /** Promise 19, "setting: 0 or 1" and "if there is no such setting". */
    private static void settingRange() {
        Check.range("setting", Check.INDEX, Scenes::few, 0, 1, HintedPages::setting);
        HintedPages pages = new HintedPages();
        for (int rule = 0; rule <= 2; rule++) {
            pages.set(0, rule);
            Check.same("rule", pages.setting(0), rule);
            pages.set(1, rule + 2);
            Check.same("kept", pages.setting(1), rule + 2);
        }
    }

    /** The public face, "looks; nothing is changed", and nothing is saved. */
    private static void looksChangeNothing() {
        for (int what = 0; what <= 11; what++) {
            int number = what;
            Check.look("page", Scenes::few, pages -> pages.page(number, number % 6));
            Check.look("block", Scenes::few, pages -> pages.block(number, number % 8));
            Check.look("slot", Scenes::few, pages -> pages.slot(number, number % 8, number % 2 == 0));
            Check.look("stream", Scenes::few, pages -> pages.stream(number % 5, number / 5));
            Check.look("count", Scenes::few, pages -> pages.count(number));
            Check.look("setting", Scenes::few, pages -> pages.setting(number % 2));
        }
    }
}
