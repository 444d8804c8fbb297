/** States that several tests begin with. */
final class Scenes {
    private Scenes() {
    }

    /**
     * The blocks 0 to 9 are closed: page k is valid in block k, and page 39 besides in block 9; the
     * other slots were programmed with page 39 and are old. Blocks 10 and 11 are free.
     */
    static HintedPages spread() {
        HintedPages pages = new HintedPages();
        for (int block = 0; block < 10; block++) {
            pages.write(block, 0);
            for (int i = 0; i < 7; i++) {
                pages.write(39, 0);
            }
        }
        return pages;
    }

    /** As spread(), and page 10 opened block 10: one block is free, so that a write collects. */
    static HintedPages tight() {
        HintedPages pages = spread();
        pages.write(10, 0);
        return pages;
    }

    /**
     * Much as tight(), with three saved states alone, and text in the buffer: page k is valid in
     * block k, and the pages 33 to 39 in block 9; the other slots of the blocks 0 to 8 are old.
     */
    static HintedPages few() {
        HintedPages pages = typed("0;33-39;1;33-39;2;33-39;3;33-39;4;33-39");
        pages.writeAll();
        type(pages, "5;33-39;6;33-39;7;33-39;8;33-39;9;33-39");
        pages.writeAll();
        pages.write(10, 0);
        type(pages, "7-9h1;");
        return pages;
    }

    /** All pages are valid, in the blocks 0 to 4, and no slot is old: there is no victim. */
    static HintedPages packed() {
        HintedPages pages = new HintedPages();
        pages.writeRow(0, 40, 0);
        return pages;
    }

    /** Writes all pages, so often, each with the hint that it has; returns how many are copied. */
    static int rewrite(HintedPages pages, int rounds) {
        int before = pages.count(7);
        int[] hints = new int[40];
        for (int page = 0; page < 40; page++) {
            hints[page] = Math.max(pages.page(page, 2), 0);
        }
        for (int i = 0; i < 40 * rounds; i++) {
            pages.write(i % 40, hints[i % 40]);
        }
        return pages.count(7) - before;
    }

    static HintedPages typed(String text) {
        HintedPages pages = new HintedPages();
        type(pages, text);
        return pages;
    }

    /** Returns the length of the buffer behind it. */
    static int type(HintedPages pages, String text) {
        int length = 0;
        for (int i = 0; i < text.length(); i++) {
            length = pages.append(text.charAt(i));
        }
        return length;
    }
}
