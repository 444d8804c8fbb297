/** Promises 20 to 24: ifWritten, ifRewritten, bestRule, amplification, digest. */
public final class ForecastsTest {
    public static void main(String[] args) {
        ifWritten();
        ifWrittenIsAsWriteDoes();
        ifWrittenRefuses();
        ifRewritten();
        ifRewrittenRefuses();
        bestRule();
        bestRuleInTheMiddle();
        bestRuleRefuses();
        amplification();
        digest();
        Check.end("ForecastsTest");
    }

    private static void ifWritten() {
        HintedPages fresh = new HintedPages();
        Check.same("no copies", fresh.ifWritten(0, 3, 0), 0);
        Check.same("block 0", fresh.ifWritten(39, 0, 1), 0);
        Check.same("no erasures", fresh.ifWritten(0, 0, 2), 0);
        HintedPages pages = Scenes.tight();
        long before = pages.digest();
        Check.same("copies", pages.ifWritten(39, 3, 0), 2);
        Check.same("its block", pages.ifWritten(39, 3, 1), 0);
        Check.same("in the open block", pages.ifWritten(39, 0, 1), 10);
        Check.same("erasures", pages.ifWritten(39, 3, 2), 2);
        Check.same("nothing is changed", pages.digest(), before);
        Check.same("no state is saved", pages.count(11), 6);
    }

    private static void ifWrittenIsAsWriteDoes() {
        HintedPages pages = Scenes.tight();
        for (int i = 0; i < 60; i++) {
            int page = i * 7 % 40;
            int hint = i % 4;
            int copies = pages.ifWritten(page, hint, 0);
            int block = pages.ifWritten(page, hint, 1);
            int erasures = pages.ifWritten(page, hint, 2);
            int before = pages.count(8);
            Check.same("copies", copies, pages.write(page, hint));
            Check.same("block", block, pages.page(page, 0));
            Check.same("erasures", erasures, pages.count(8) - before);
        }
    }

    private static void ifWrittenRefuses() {
        HintedPages pages = Scenes.tight();
        Check.throwsIndex("ifWritten(-1, 0, 0)", pages, () -> pages.ifWritten(-1, 0, 0));
        Check.throwsIndex("ifWritten(40, 4, 3)", pages, () -> pages.ifWritten(40, 4, 3));
        Check.throwsArgument("ifWritten(0, -1, 0)", pages, () -> pages.ifWritten(0, -1, 0));
        Check.throwsArgument("ifWritten(0, 4, 0)", pages, () -> pages.ifWritten(0, 4, 0));
        Check.throwsArgument("ifWritten(0, 0, -1)", pages, () -> pages.ifWritten(0, 0, -1));
        Check.throwsArgument("ifWritten(0, 0, 3)", pages, () -> pages.ifWritten(0, 0, 3));
    }

    /** Pages of several hints, some of them not written, others with a hint that came late. */
    private static HintedPages mixed() {
        HintedPages pages = new HintedPages();
        for (int i = 0; i < 150; i++) {
            pages.write(i * i % 37, i % 4);
        }
        pages.hint(1, 3);
        pages.hint(4, 0);
        pages.trim(9);
        return pages;
    }

    private static int copiesByHand(HintedPages pages, int rounds) {
        int before = pages.count(7);
        for (int round = 0; round < rounds; round++) {
            for (int page = 0; page < 40; page++) {
                int hint = pages.page(page, 2);
                pages.write(page, hint == HintedPages.NONE ? 0 : hint);
            }
        }
        return pages.count(7) - before;
    }

    private static void ifRewritten() {
        Check.same("a new object", new HintedPages().ifRewritten(9), 0);
        for (int rounds = 1; rounds <= 9; rounds++) {
            HintedPages pages = mixed();
            long before = pages.digest();
            int told = pages.ifRewritten(rounds);
            Check.same("nothing is changed", pages.digest(), before);
            Check.same("rounds " + rounds, told, copiesByHand(pages, rounds));
        }
        HintedPages copied = Scenes.tight();
        copied.writeRow(0, 40, 2);
        Check.same("copies before", copied.count(7) > 0 ? 1 : 0, 1);
        int more = copied.ifRewritten(2);
        Check.same("copies by these alone", more, copiesByHand(copied, 2));
        HintedPages kept = mixed();
        kept.set(0, 2);
        kept.set(1, 4);
        int told = kept.ifRewritten(3);
        Check.same("by the settings", told, copiesByHand(kept, 3));
        Check.same("which copies some", told > 0 ? 1 : 0, 1);
    }

    private static void ifRewrittenRefuses() {
        HintedPages pages = mixed();
        Check.throwsArgument("ifRewritten(0)", pages, () -> pages.ifRewritten(0));
        Check.throwsArgument("ifRewritten(-1)", pages, () -> pages.ifRewritten(-1));
        Check.throwsArgument("ifRewritten(10)", pages, () -> pages.ifRewritten(10));
    }

    private static void bestRule() {
        Check.same("of several the lowest", new HintedPages().bestRule(9), 0);
        int[] told = new int[3];
        for (int seed = 1; seed < 200; seed++) {
            HintedPages pages = new HintedPages();
            for (int i = 0; i < 20; i++) {
                pages.writeRow((seed * 7 + i * 11) % 40, 1, (i * seed) % 4);
                pages.writeRow(0, (i * 13 + seed) % 9 + 1, i % 4);
            }
            pages.set(1, 2 + seed % 3);
            pages.set(0, seed % 3);
            int best = pages.bestRule(1 + seed % 9);
            Check.same("the setting stays", pages.setting(0), seed % 3);
            Check.same("best rule", best, bestByHand(pages, 1 + seed % 9));
            told[best]++;
        }
        for (int rule = 0; rule < 3; rule++) {
            Check.same("rule " + rule + " is best now and then", told[rule] > 0 ? 1 : 0, 1);
        }
    }

    /** Copies by the rules 0 to 2: 61, 59 and 60. */
    private static void bestRuleInTheMiddle() {
        HintedPages pages = new HintedPages();
        for (int i = 0; i < 20; i++) {
            pages.writeRow((113 * 7 + i * 11) % 40, 1, (i * 113) % 4);
            pages.writeRow(0, (i * 13 + 113) % 9 + 1, i % 4);
            if (i % 5 == 0) {
                pages.writeRow(i * 113 % 30, 10, (i + 113) % 4);
            }
        }
        pages.set(1, 4);
        Check.same("best by hand", bestByHand(pages, 1), 1);
        Check.same("best of two that beat the rule 0", pages.bestRule(1), 1);
    }

    private static int bestByHand(HintedPages pages, int rounds) {
        int best = -1;
        int fewest = Integer.MAX_VALUE;
        for (int rule = 0; rule < 3; rule++) {
            pages.set(0, rule);
            int copies = pages.ifRewritten(rounds);
            pages.undo();
            if (copies < fewest) {
                best = rule;
                fewest = copies;
            }
        }
        return best;
    }

    private static void bestRuleRefuses() {
        HintedPages pages = mixed();
        Check.throwsArgument("bestRule(0)", pages, () -> pages.bestRule(0));
        Check.throwsArgument("bestRule(-1)", pages, () -> pages.bestRule(-1));
        Check.throwsArgument("bestRule(10)", pages, () -> pages.bestRule(10));
    }

    private static void amplification() {
        HintedPages pages = new HintedPages();
        amplifies(pages, 1.0);
        pages.writeRow(0, 8, 0);
        amplifies(pages, 1.0);
        pages.collect(0);
        amplifies(pages, 2.0);
        pages.write(39, 0);
        amplifies(pages, 17.0 / 9.0);
        pages.write(39, 0);
        pages.write(39, 0);
        amplifies(pages, 19.0 / 11.0);
        for (int i = 0; i < 40; i++) {
            int block = pages.page(0, 0);
            Check.same("collected", pages.collect(block), 8);
        }
        amplifies(pages, 339.0 / 11.0);
        pages.undo();
        amplifies(pages, 331.0 / 11.0);
    }

    private static void amplifies(HintedPages pages, double due) {
        Check.same("amplification", Double.doubleToLongBits(pages.amplification()), Double.doubleToLongBits(due));
        Check.same("its bits in the digest", pages.digest(), Looks.of(pages).digestWith(""));
    }

    private static void digest() {
        Check.same("a new object", new HintedPages().digest(), Looks.of(new HintedPages()).digestWith(""));
        Check.same("a full store", Scenes.tight().digest(), Looks.of(Scenes.tight()).digestWith(""));
        Check.same("many hints", mixed().digest(), Looks.of(mixed()).digestWith(""));
        HintedPages pages = mixed();
        pages.set(0, 1);
        pages.set(1, 3);
        Scenes.type(pages, "1-2h3;~!");
        Check.same("with a buffer", pages.digest(), Looks.of(pages).digestWith("1-2h3;~!"));
        long before = pages.digest();
        Check.same("nothing is changed", pages.digest(), before);
        pages.clearBuffer();
        Check.same("the buffer counts", pages.digest() == before ? 1 : 0, 0);
    }
}
