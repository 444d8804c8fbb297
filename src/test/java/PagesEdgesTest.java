/** The sentences of the promises 1 to 5 that name a boundary case, a test each. */
public final class PagesEdgesTest {
    public static void main(String[] args) {
        newObjectIsFreeWithAnEmptyBuffer();
        newObjectHasNothingSaved();
        writePageRange();
        writeHintRange();
        writeThrowsTheFirstNamed();
        writeReturnsCopies();
        writeIsUndoable();
        writeRowFirstRange();
        writeRowManyRange();
        writeRowUpToPage39();
        writeRowHintRange();
        writeRowThrowsTheFirstNamed();
        writeRowByAscendingNumbers();
        writeRowReturnsCopies();
        writeRowIsUndoableAsOneCall();
        trimRange();
        trimReturnsTheBlockOrNone();
        trimIsUndoable();
        hintPageRange();
        hintRange();
        hintNeedsAWrittenPage();
        hintThrowsTheFirstNamed();
        hintReturnsThePreviousOne();
        hintLeavesThePageWhereItIs();
        hintIsUndoable();
        Check.end("PagesEdgesTest");
    }

    /** Promise 1, "Creates free blocks, with an empty buffer". */
    private static void newObjectIsFreeWithAnEmptyBuffer() {
        Check.same("free blocks", new HintedPages().count(1), 12);
        Check.same("blank slots", new HintedPages().count(5), 96);
        Check.same("length of the buffer", new HintedPages().clearBuffer(), 0);
        Check.same("NONE", HintedPages.NONE, -1);
    }

    /** Promise 1, with "At most 6 states are saved": at first none is. */
    private static void newObjectHasNothingSaved() {
        Check.same("saved states", new HintedPages().count(11), 0);
        Check.refusedAsItIs("undo of a new object", Check.STATE, HintedPages::new, HintedPages::undo);
    }

    /** Promise 2, "page: 0 to 39" and "if there is no such page". */
    private static void writePageRange() {
        Check.range("write's page", Check.INDEX, Scenes::few, 0, 39, (pages, page) -> pages.write(page, 0));
    }

    /** Promise 2, "hint: 0 to 3" and "if hint is out of range". */
    private static void writeHintRange() {
        Check.range("write's hint", Check.ARGUMENT, Scenes::few, 0, 3, (pages, hint) -> pages.write(39, hint));
    }

    /** Promise 2, with "the one that is named first": no such page, and the hint out of range. */
    private static void writeThrowsTheFirstNamed() {
        Check.refused("write(40, 4)", Check.INDEX, Scenes::few, pages -> pages.write(40, 4));
        Check.refused("write(-1, -1)", Check.INDEX, Scenes::few, pages -> pages.write(-1, -1));
    }

    /** Promise 2, "how many pages are copied by it": none, some, and not those copied before. */
    private static void writeReturnsCopies() {
        HintedPages pages = Scenes.tight();
        Check.same("in a new object", new HintedPages().write(0, 0), 0);
        Check.same("with a collection", pages.write(39, 0), 2);
        Check.same("the next", pages.write(39, 0), 0);
        Check.same("copies so far", pages.count(7), 2);
    }

    /** Promise 2, "Undoable": with collections, and as the first call. */
    private static void writeIsUndoable() {
        Check.undoable("write with copies", Scenes::few, pages -> pages.write(39, 3));
        Check.undoable("the first write", HintedPages::new, pages -> pages.write(0, 0));
    }

    /** Promise 3, "first: 0 to 39" and "if there is no such page". */
    private static void writeRowFirstRange() {
        Check.range("writeRow's first", Check.INDEX, Scenes::few, 0, 39, (pages, first) -> pages.writeRow(first, 1, 0));
    }

    /** Promise 3, "many: 1 to 40". */
    private static void writeRowManyRange() {
        Check.range("writeRow's many", Check.ARGUMENT, Scenes::few, 1, 40, (pages, many) -> pages.writeRow(0, many, 0));
        HintedPages all = new HintedPages();
        all.writeRow(0, 40, 2);
        Check.same("40 pages", all.count(0), 40);
        HintedPages one = new HintedPages();
        one.writeRow(0, 1, 2);
        Check.same("1 page", one.count(0), 1);
    }

    /** Promise 3, "up to the page 39": from each first page. */
    private static void writeRowUpToPage39() {
        for (int first = 0; first <= 39; first++) {
            int from = first;
            HintedPages pages = new HintedPages();
            pages.writeRow(from, 40 - from, 1);
            Check.same("the last is written", pages.page(39, 2), 1);
            Check.same("no page is written ahead", pages.count(0), 40 - from);
            Check.refused("one too many", Check.ARGUMENT, Scenes::packed, each -> each.writeRow(from, 41 - from, 1));
        }
        Check.range("from the page 38", Check.ARGUMENT, Scenes::few, 1, 2, (pages, many) -> pages.writeRow(38, many, 0));
        Check.range("from the page 39", Check.ARGUMENT, Scenes::few, 1, 1, (pages, many) -> pages.writeRow(39, many, 0));
    }

    /** Promise 3, "hint: 0 to 3". */
    private static void writeRowHintRange() {
        Check.range("writeRow's hint", Check.ARGUMENT, Scenes::few, 0, 3, (pages, hint) -> pages.writeRow(39, 1, hint));
    }

    /** Promise 3, with "the one that is named first": no such page ahead of many and hint. */
    private static void writeRowThrowsTheFirstNamed() {
        Check.refused("writeRow(40, 0, 0)", Check.INDEX, Scenes::few, pages -> pages.writeRow(40, 0, 0));
        Check.refused("writeRow(-1, 1, 4)", Check.INDEX, Scenes::few, pages -> pages.writeRow(-1, 1, 4));
        Check.refused("writeRow(-1, 41, -1)", Check.INDEX, Scenes::few, pages -> pages.writeRow(-1, 41, -1));
        Check.refused("writeRow(40, 41, 4)", Check.INDEX, Scenes::few, pages -> pages.writeRow(40, 41, 4));
        Check.refused("writeRow(39, 2, 4)", Check.ARGUMENT, Scenes::few, pages -> pages.writeRow(39, 2, 4));
    }

    /** Promise 3, "side by side, by ascending numbers": the first in the first slot, none behind. */
    private static void writeRowByAscendingNumbers() {
        HintedPages pages = new HintedPages();
        pages.writeRow(5, 9, 3);
        for (int i = 0; i < 9; i++) {
            Check.same("page " + (5 + i), pages.page(5 + i, 0) * 8 + pages.page(5 + i, 1), i);
            Check.same("its hint", pages.page(5 + i, 2), 3);
        }
        Check.same("none ahead", pages.page(4, 0), -1);
        Check.same("none behind", pages.page(14, 0), -1);
    }

    /** Promise 3, "how many pages are copied by it": by all of the row. */
    private static void writeRowReturnsCopies() {
        Check.same("in a new object", new HintedPages().writeRow(0, 40, 0), 0);
        HintedPages row = Scenes.tight();
        HintedPages single = Scenes.tight();
        int copies = 0;
        for (int page = 0; page < 40; page++) {
            copies += single.write(page, 2);
        }
        Check.same("some are copied", copies > 2 ? 1 : 0, 1);
        Check.same("as page by page", row.writeRow(0, 40, 2), copies);
        Check.same("copies so far", row.count(7), copies);
    }

    /** Promise 3, "Undoable, as one call". */
    private static void writeRowIsUndoableAsOneCall() {
        Check.undoable("writeRow", Scenes::few, pages -> pages.writeRow(0, 40, 3));
        Check.undoable("a row of one", HintedPages::new, pages -> pages.writeRow(39, 1, 0));
    }

    /** Promise 4, "page: 0 to 39" and "if there is no such page". */
    private static void trimRange() {
        Check.range("trim's page", Check.INDEX, Scenes::few, 0, 39, HintedPages::trim);
    }

    /** Promise 4, "Returns the block in which it was, NONE if it was not written". */
    private static void trimReturnsTheBlockOrNone() {
        HintedPages pages = Scenes.tight();
        Check.same("in block 0", pages.trim(0), 0);
        Check.same("trimmed already", pages.trim(0), -1);
        Check.same("in block 10", pages.trim(10), 10);
        Check.same("never written", pages.trim(38), -1);
        pages.collect(8);
        Check.same("where it was copied", pages.trim(8), 11);
    }

    /** Promise 4, "Undoable", with "also if it changes nothing". */
    private static void trimIsUndoable() {
        Check.undoable("trim", Scenes::few, pages -> pages.trim(39));
        Check.undoable("trim of a page that is not written", Scenes::few, pages -> pages.trim(20));
        Check.undoable("trim in a new object", HintedPages::new, pages -> pages.trim(0));
    }

    /** Promise 5, "page: 0 to 39" and "if there is no such page". */
    private static void hintPageRange() {
        Check.range("hint's page", Check.INDEX, Scenes::packed, 0, 39, (pages, page) -> pages.hint(page, 1));
    }

    /** Promise 5, "hint: 0 to 3" and "if hint is out of range". */
    private static void hintRange() {
        Check.range("hint's hint", Check.ARGUMENT, Scenes::few, 0, 3, (pages, hint) -> pages.hint(39, hint));
    }

    /** Promise 5, "if it is not written": never written, and trimmed. */
    private static void hintNeedsAWrittenPage() {
        Check.refused("never written", Check.STATE, Scenes::few, pages -> pages.hint(20, 0));
        Scene trimmed = Scene.of(Scenes::few).then(pages -> pages.trim(0));
        Check.refused("trimmed", Check.STATE, trimmed, pages -> pages.hint(0, 3));
        Check.refused("a new object", Check.STATE, HintedPages::new, pages -> pages.hint(39, 0));
    }

    /** Promise 5, with "the one that is named first": of two, and of all three. */
    private static void hintThrowsTheFirstNamed() {
        Check.refused("hint(40, 4)", Check.INDEX, Scenes::few, pages -> pages.hint(40, 4));
        Check.refused("hint(-1, 0)", Check.INDEX, Scenes::few, pages -> pages.hint(-1, 0));
        Check.refused("hint(20, 4), not written", Check.ARGUMENT, Scenes::few, pages -> pages.hint(20, 4));
        Check.refused("hint(20, -1), not written", Check.ARGUMENT, Scenes::few, pages -> pages.hint(20, -1));
    }

    /** Promise 5, "Returns the previous hint": also if it is the same. */
    private static void hintReturnsThePreviousOne() {
        HintedPages pages = new HintedPages();
        pages.write(39, 3);
        Check.same("of the write", pages.hint(39, 0), 3);
        Check.same("of hint()", pages.hint(39, 0), 0);
        Check.same("the same once more", pages.hint(39, 2), 0);
    }

    /** Promise 5, "which stays where it is": nothing is programmed, counted or collected. */
    private static void hintLeavesThePageWhereItIs() {
        HintedPages pages = Scenes.tight();
        pages.hint(0, 3);
        int[] due = {0, 0, 3, 1, 0, 0};
        for (int what = 0; what < due.length; what++) {
            Check.same("page(0, " + what + ")", pages.page(0, what), due[what]);
        }
        Check.same("programmed for the stream 3", pages.stream(3, 1), 0);
        Check.same("pages with hint 3", pages.stream(3, 2), 1);
        Check.same("erasures", pages.count(8), 0);
        Check.same("writes", pages.count(6), 81);
    }

    /** Promise 5, "Undoable", with "also if it changes nothing". */
    private static void hintIsUndoable() {
        Check.undoable("hint", Scenes::few, pages -> pages.hint(0, 3));
        Check.undoable("the same hint", Scenes::few, pages -> pages.hint(0, 0));
    }
}
