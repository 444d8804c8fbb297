/** Promises 20 to 24: ifWritten, ifRewritten, bestRule, amplification, digest. */
public final class ForecastsTest {
    public static void main(String[] args) {
        ifWritten();
        ifWrittenIsAsWriteDoes();
        ifRewritten();
        bestRule();
        bestRuleInTheMiddle();
        amplification();
        digest();
        Check.end("ForecastsTest");
    }

    private static void ifWritten() {
        HintedPages fresh = new HintedPages();
        Check.same("no copies", fresh.ifWritten(0, 3, 0), 0);
        Check.same("block 0", fresh.ifWritten(39, 0, 1), 0);
        Check.same("no erasures", fresh.ifWritten(0, 0, 2), 0);
        HintedPages pages = Scenes.tight();
        long before = pages.digest();
        Check.same("copies", pages.ifWritten(39, 3, 0), 2);
        Check.same("its block", pages.ifWritten(39, 3, 1), 0);
        Check.same("in the open block", pages.ifWritten(39, 0, 1), 10);
        Check.same("erasures", pages.ifWritten(39, 3, 2), 2);
        Check.same("nothing is changed", pages.digest(), before);
        Check.same("no state is saved", pages.count(11), 6);
    }

    private static void ifWrittenIsAsWriteDoes() {
        HintedPages pages = Scenes.tight();
        for (int i = 0; i < 60; i++) {
            int page = i * 7 % 40;
            int hint = i % 4;
            int copies = pages.ifWritten(page, hint, 0);
            int block = pages.ifWritten(page, hint, 1);
            int erasures = pages.ifWritten(page, hint, 2);
            int before = pages.count(8);
            Check.same("copies", copies, pages.write(page, hint));
            Check.same("block", block, pages.page(page, 0));
            Check.same("erasures", erasures, pages.count(8) - before);
        }
    }

    /** Pages of several hints, some of them not written, others with a hint that came late. */
    private static HintedPages mixed() {
        HintedPages pages = new HintedPages();
        for (int i = 0; i < 50; i++) {
            pages.writeRow(i * i % 37, 3, i % 4);
        }
        pages.hint(1, 3);
        pages.hint(4, 0);
        pages.trim(9);
        pages.trim(30);
        return pages;
    }

    private static void ifRewritten() {
        Check.same("a new object", new HintedPages().ifRewritten(9), 0);
        for (int rounds = 1; rounds <= 9; rounds++) {
            HintedPages pages = mixed();
            long before = pages.digest();
            int told = pages.ifRewritten(rounds);
            Check.same("nothing is changed", pages.digest(), before);
            Check.same("rounds " + rounds, told, Scenes.rewrite(pages, rounds));
        }
        HintedPages copied = Scenes.tight();
        copied.writeRow(0, 40, 2);
        Check.same("copies before", copied.count(7) > 0 ? 1 : 0, 1);
        int more = copied.ifRewritten(2);
        Check.same("copies by these alone", more, Scenes.rewrite(copied, 2));
        HintedPages kept = mixed();
        kept.set(0, 2);
        kept.set(1, 4);
        int told = kept.ifRewritten(3);
        Check.same("by the settings", told, Scenes.rewrite(kept, 3));
        Check.same("which copies some", told > 0 ? 1 : 0, 1);
    }

    private static void bestRule() {
        Check.same("of several the lowest", new HintedPages().bestRule(9), 0);
        int[] told = new int[3];
        for (int seed = 1; seed < 200; seed++) {
            HintedPages pages = new HintedPages();
            for (int i = 0; i < 20; i++) {
                pages.writeRow((seed * 7 + i * 11) % 40, 1, (i * seed) % 4);
                pages.writeRow(0, (i * 13 + seed) % 9 + 1, i % 4);
            }
            pages.set(1, 2 + seed % 3);
            pages.set(0, seed % 3);
            int best = pages.bestRule(1 + seed % 9);
            Check.same("the setting stays", pages.setting(0), seed % 3);
            Check.same("best rule", best, bestByHand(pages, 1 + seed % 9));
            told[best]++;
        }
        for (int rule = 0; rule < 3; rule++) {
            Check.same("rule " + rule + " is best now and then", told[rule] > 0 ? 1 : 0, 1);
        }
    }

    /** Copies by the rules 0 to 2: 61, 59 and 60. */
    private static void bestRuleInTheMiddle() {
        HintedPages pages = new HintedPages();
        for (int i = 0; i < 20; i++) {
            pages.writeRow((113 * 7 + i * 11) % 40, 1, (i * 113) % 4);
            pages.writeRow(0, (i * 13 + 113) % 9 + 1, i % 4);
            if (i % 5 == 0) {
                pages.writeRow(i * 113 % 30, 10, (i + 113) % 4);
            }
        }
        pages.set(1, 4);
        Check.same("best by hand", bestByHand(pages, 1), 1);
        Check.same("best of two that beat the rule 0", pages.bestRule(1), 1);
    }

    private static int bestByHand(HintedPages pages, int rounds) {
        int best = -1;
        int fewest = Integer.MAX_VALUE;
        for (int rule = 0; rule < 3; rule++) {
            pages.set(0, rule);
            int copies = pages.ifRewritten(rounds);
            pages.undo();
            if (copies < fewest) {
                best = rule;
                fewest = copies;
            }
        }
        return best;
    }

    private static void amplification() {
        Scene fresh = HintedPages::new;
        amplifies(fresh, 1.0);
        Scene row = fresh.then(pages -> pages.writeRow(0, 8, 0));
        amplifies(row, 1.0);
        Scene copied = row.then(pages -> pages.collect(0));
        amplifies(copied, 2.0);
        Scene once = copied.then(pages -> pages.write(39, 0));
        amplifies(once, 17.0 / 9.0);
        Scene thrice = once.then(pages -> pages.write(39, 0), pages -> pages.write(39, 0));
        amplifies(thrice, 19.0 / 11.0);
        Scene worn = thrice.then(ForecastsTest::collectForty);
        amplifies(worn, 339.0 / 11.0);
        amplifies(worn.undone(1), 331.0 / 11.0);
    }

    private static long collectForty(HintedPages pages) {
        for (int i = 0; i < 40; i++) {
            int block = pages.page(0, 0);
            Check.same("collected", pages.collect(block), 8);
        }
        return pages.count(7);
    }

    private static void amplifies(Scene scene, double due) {
        long bits = Double.doubleToLongBits(scene.make().amplification());
        Check.same("amplification", bits, Double.doubleToLongBits(due));
        Check.same("its bits in the digest", scene.make().digest(), Looks.of(scene).digestWith(""));
    }

    private static void digest() {
        digestIsOfLooks("a new object", HintedPages::new, "");
        digestIsOfLooks("a full store", Scenes::tight, "");
        digestIsOfLooks("a text", Scenes::few, "7-9h1;");
        digestIsOfLooks("many hints", ForecastsTest::mixed, "");
        Scene set = Scene.of(ForecastsTest::mixed).then(pages -> pages.set(0, 1), pages -> pages.set(1, 3));
        digestIsOfLooks("other settings", set, "");
        digestIsOfLooks("with a buffer", set.typed("1-2h3;~!"), "1-2h3;~!");
    }

    private static void digestIsOfLooks(String what, Scene scene, String buffer) {
        Check.same("digest of " + what, scene.make().digest(), Looks.of(scene).digestWith(buffer));
    }
}
