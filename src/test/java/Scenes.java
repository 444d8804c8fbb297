/** States that several tests begin with. */
final class Scenes {
    private Scenes() {
    }

    /**
     * The blocks 0 to 9 are closed: page k is valid in block k, and page 39 besides in block 9; the
     * other slots were programmed with page 39 and are old. Blocks 10 and 11 are free.
     */
    static HintedPages spread() {
        HintedPages pages = new HintedPages();
        for (int block = 0; block < 10; block++) {
            pages.write(block, 0);
            for (int i = 0; i < 7; i++) {
                pages.write(39, 0);
            }
        }
        return pages;
    }

    /** As spread(), and page 10 opened block 10: one block is free, so that a write collects. */
    static HintedPages tight() {
        HintedPages pages = spread();
        pages.write(10, 0);
        return pages;
    }

    static HintedPages typed(String text) {
        HintedPages pages = new HintedPages();
        type(pages, text);
        return pages;
    }

    static void type(HintedPages pages, String text) {
        for (int i = 0; i < text.length(); i++) {
            pages.append(text.charAt(i));
        }
    }
}
