/** Promises 14 to 19: page, block, slot, stream, count, setting. */
public final class LooksTest {
    public static void main(String[] args) {
        page();
        block();
        blockClosedAhead();
        blockUnlikeHints();
        slot();
        stream();
        count();
        spreadOfErasures();
        victims();
        setting();
        Check.end("LooksTest");
    }

    private static void page() {
        HintedPages pages = Scenes.tight();
        pages.write(39, 2);
        ofPage(pages, 0, new int[] {11, 0, 0, 1, 1, 1});
        ofPage(pages, 1, new int[] {11, 1, 0, 1, 1, 1});
        ofPage(pages, 9, new int[] {9, 0, 0, 1, 0, 0});
        ofPage(pages, 39, new int[] {0, 0, 2, 71, 0, 0});
        ofPage(pages, 38, new int[] {-1, -1, -1, 0, 0, 0});
        pages.collect(9);
        ofPage(pages, 9, new int[] {11, 2, 0, 1, 1, 1});
        pages.write(9, 1);
        Check.same("copied before", pages.page(9, 4), 1);
        Check.same("not since", pages.page(9, 5), 0);
        Check.same("written twice", pages.page(9, 3), 2);
    }

    private static void ofPage(HintedPages pages, int page, int[] due) {
        for (int what = 0; what < due.length; what++) {
            Check.same("page(" + page + ", " + what + ")", pages.page(page, what), due[what]);
        }
    }

    private static void block() {
        HintedPages pages = Scenes.tight();
        pages.write(39, 2);
        ofBlock(pages, 0, new int[] {1, 2, 1, 0, 7, 1, -1, 1});
        ofBlock(pages, 1, new int[] {0, -1, 0, 0, 8, 1, -1, 0});
        ofBlock(pages, 2, new int[] {2, 0, 1, 7, 0, 0, 0, 1});
        ofBlock(pages, 9, new int[] {2, 0, 1, 7, 0, 0, 7, 1});
        ofBlock(pages, 10, new int[] {1, 0, 1, 0, 7, 0, -1, 1});
        ofBlock(pages, 11, new int[] {1, 4, 2, 0, 6, 0, -1, 1});
    }

    private static void ofBlock(HintedPages pages, int block, int[] due) {
        for (int what = 0; what < due.length; what++) {
            Check.same("block(" + block + ", " + what + ")", pages.block(block, what), due[what]);
        }
    }

    private static void blockClosedAhead() {
        HintedPages pages = new HintedPages();
        pages.writeRow(0, 7, 0);
        pages.writeRow(10, 8, 1);
        pages.writeRow(20, 8, 2);
        pages.write(7, 0);
        Check.same("opened first, closed last", pages.block(0, 6), 2);
        Check.same("closed first", pages.block(1, 6), 0);
        Check.same("closed second", pages.block(2, 6), 1);
        pages.collect(1);
        Check.same("free", pages.block(1, 6), -1);
        Check.same("one less", pages.block(0, 6), 1);
        Check.same("copies are closed behind", pages.block(3, 6), 2);
    }

    private static void blockUnlikeHints() {
        HintedPages pages = new HintedPages();
        pages.writeRow(0, 5, 1);
        Check.same("all alike", pages.block(0, 7), 1);
        for (int hint = 0; hint < 4; hint++) {
            pages.hint(hint, hint);
        }
        Check.same("four unlike ones", pages.block(0, 7), 4);
        pages.trim(0);
        Check.same("valid pages alone", pages.block(0, 7), 3);
        pages.write(2, 0);
        Check.same("not the old slot's", pages.block(0, 7), 2);
        pages.trim(1);
        Check.same("page 4 has it, too", pages.block(0, 7), 2);
    }

    private static void slot() {
        HintedPages pages = Scenes.spread();
        Check.same("valid", pages.slot(4, 0, true), 4);
        Check.same("valid, any", pages.slot(4, 0, false), 4);
        Check.same("old", pages.slot(4, 7, true), -1);
        Check.same("old, any", pages.slot(4, 7, false), 39);
        Check.same("blank", pages.slot(11, 7, true), -1);
        Check.same("blank, any", pages.slot(11, 7, false), -1);
        Check.same("latest", pages.slot(9, 7, true), 39);
    }

    private static void stream() {
        HintedPages pages = Scenes.tight();
        pages.write(39, 2);
        ofStream(pages, 0, new int[] {10, 81, 11, 2, 102});
        ofStream(pages, 1, new int[] {-1, 0, 0, 0, 0});
        ofStream(pages, 2, new int[] {0, 1, 1, 0, 100});
        ofStream(pages, 4, new int[] {11, 2, 0, 0, 100});
        pages.hint(1, 1);
        pages.collect(2);
        pages.collect(3);
        Check.same("hint() programs nothing", pages.stream(1, 1), 0);
        Check.same("pages by hint()", pages.stream(1, 2), 1);
        Check.same("divided down", pages.stream(0, 4), 104);
        pages.trim(39);
        Check.same("trimmed", pages.stream(2, 2), 0);
        HintedPages copied = new HintedPages();
        copied.writeRow(0, 8, 3);
        copied.writeRow(0, 8, 3);
        copied.hint(0, 2);
        copied.collect(1);
        Check.same("copies of hint 2", copied.stream(2, 3), 1);
        Check.same("without a write", copied.stream(2, 4), 0);
        Check.same("copies of hint 3", copied.stream(3, 3), 7);
        Check.same("143 and three fourths", copied.stream(3, 4), 143);
    }

    private static void ofStream(HintedPages pages, int stream, int[] due) {
        for (int what = 0; what < due.length; what++) {
            Check.same("stream(" + stream + ", " + what + ")", pages.stream(stream, what), due[what]);
        }
    }

    private static void count() {
        HintedPages pages = Scenes.tight();
        ofAll(pages, new int[] {12, 1, 1, 10, 69, 15, 81, 0, 0, 0, 0, 6});
        pages.write(39, 2);
        ofAll(pages, new int[] {12, 1, 3, 8, 56, 28, 82, 2, 2, 1, 2, 6});
        pages.undo();
        pages.trim(3);
        ofAll(pages, new int[] {11, 1, 1, 10, 70, 15, 81, 0, 0, 0, 3, 6});
    }

    private static void ofAll(HintedPages pages, int[] due) {
        for (int what = 0; what < due.length; what++) {
            Check.same("count(" + what + ")", pages.count(what), due[what]);
        }
    }

    private static void spreadOfErasures() {
        HintedPages pages = new HintedPages();
        for (int i = 0; i < 12; i++) {
            pages.writeRow(0, 8, 1);
            int block = pages.page(0, 0);
            Check.same("blocks by turns", block, i);
            for (int page = 0; page < 8; page++) {
                pages.trim(page);
            }
            pages.collect(block);
            Check.same("spread", pages.count(9), i == 11 ? 0 : 1);
        }
        pages.writeRow(0, 8, 1);
        pages.collect(pages.page(0, 0));
        Check.same("two less one", pages.count(9), 1);
        Check.same("erasures", pages.count(8), 13);
        HintedPages other = Scenes.spread();
        other.collect(4);
        Check.same("not of the block 0", other.count(9), 1);
    }

    private static void victims() {
        HintedPages pages = Scenes.spread();
        victimsAre(pages, 0, 0, 0);
        pages.trim(5);
        victimsAre(pages, 5, 0, 5);
        pages.trim(7);
        victimsAre(pages, 5, 0, 5);
        pages.collect(5);
        pages.collect(7);
        pages.collect(0);
        victimsAre(pages, 1, 1, 1);
        // The erased block 0 is the lowest of those with one erasure, and so is opened again.
        pages.set(1, 2);
        for (int i = 0; i < 200 && pages.block(0, 0) != 2; i++) {
            pages.write(20, 0);
        }
        Check.same("an erased block, closed again", pages.block(0, 5), 1);
        int fewest = pages.count(10);
        Check.same("the fewest valid slots", pages.block(fewest, 2), 0);
        pages.set(0, 2);
        Check.same("the fewest erasures", pages.block(pages.count(10), 5), 0);
        victimsWithoutOldSlots();
        victimsByLooks();
    }

    private static void victimsAre(HintedPages pages, int fewest, int first, int erasures) {
        pages.set(0, 0);
        Check.same("victim by rule 0", pages.count(10), fewest);
        pages.set(0, 1);
        Check.same("victim by rule 1", pages.count(10), first);
        pages.set(0, 2);
        Check.same("victim by rule 2", pages.count(10), erasures);
        pages.set(0, 0);
    }

    private static void victimsWithoutOldSlots() {
        HintedPages pages = new HintedPages();
        pages.writeRow(0, 16, 0);
        Check.same("no old slot", pages.count(10), -1);
        pages.writeRow(0, 3, 1);
        Check.same("closed, with old slots", pages.count(10), 0);
        pages.writeRow(8, 4, 2);
        Check.same("fewer valid ones", pages.count(10), 1);
        pages.writeRow(0, 3, 1);
        Check.same("open blocks are none", pages.count(10), 1);
        pages.set(0, 1);
        Check.same("closed first", pages.count(10), 0);
    }

    private static void victimsByLooks() {
        int[] unlike = new int[4];
        HintedPages pages = new HintedPages();
        for (int i = 0; i < 1500; i++) {
            // Anew after a few steps, as each takes some hundred of the 512 calls of an object.
            if (i % 3 == 0) {
                pages = worn(i);
            }
            pages.write(i * i % 41 % 40, i % 3);
            int[] victims = new int[3];
            for (int rule = 0; rule < 3; rule++) {
                pages.set(0, rule);
                victims[rule] = pages.count(10);
                Check.same("victim by rule " + rule, victims[rule], victimByLooks(pages, rule));
            }
            unlike[(int) java.util.Arrays.stream(victims).distinct().count()]++;
        }
        Check.same("rules differ", unlike[2] > 0 && unlike[3] > 0 ? 1 : 0, 1);
    }

    private static HintedPages worn(int seed) {
        HintedPages pages = new HintedPages();
        for (int i = 0; i < 8; i++) {
            pages.set(0, (seed + i) % 3);
            pages.writeRow((seed + i * 3) % 20, 20, i % 4);
            pages.write(i * seed % 40, (i + seed) % 4);
        }
        return pages;
    }

    private static int victimByLooks(HintedPages pages, int rule) {
        int best = HintedPages.NONE;
        int[] looks = {2, 6, 5};
        long least = Long.MAX_VALUE;
        for (int block = 0; block < 12; block++) {
            long rank = pages.block(block, looks[rule]) * 100L + pages.block(block, 2);
            if (pages.block(block, 0) == 2 && pages.block(block, 3) > 0 && rank < least) {
                best = block;
                least = rank;
            }
        }
        return best;
    }

    private static void setting() {
        HintedPages pages = new HintedPages();
        pages.set(0, 1);
        Check.same("setting 0", pages.setting(0), 1);
        Check.same("setting 1", pages.setting(1), 2);
        pages.set(1, 4);
        Check.same("setting 0", pages.setting(0), 1);
        Check.same("setting 1", pages.setting(1), 4);
    }
}
