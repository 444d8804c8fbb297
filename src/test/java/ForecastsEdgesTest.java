/** The sentences of the promises 20 to 24 that name a boundary case, a test each. */
public final class ForecastsEdgesTest {
    private static final String SIXTY = "0-39;".repeat(11) + "~~~~~";
    // In this state one round copies 58, 50 and 55 pages by the rules 0 to 2.
    private static final int MIDDLE = 369;
    // In this state the best rules of one, two and three rounds are 2, 1 and 0.
    private static final int UNLIKE_ROUNDS = 57;

    public static void main(String[] args) {
        ifWrittenPageRange();
        ifWrittenHintRange();
        ifWrittenWhatRange();
        ifWrittenThrowsTheFirstNamed();
        ifWrittenInANewObject();
        ifWrittenWithAndWithoutCollecting();
        ifWrittenWithoutVictim();
        ifWrittenOfAPageInTheVictim();
        ifWrittenFillsTheOpenBlock();
        ifRewrittenRoundsRange();
        ifRewrittenOfANewObject();
        ifRewrittenHintOfEachPage();
        ifRewrittenRoundByRound();
        ifRewrittenWithTheSettings();
        bestRuleRoundsRange();
        bestRuleOfSeveralTheLowest();
        bestRuleWhateverTheRuleIs();
        amplificationIs1WithoutWrites();
        amplificationIsADouble();
        digestOfANewObject();
        digestCountsTheBuffer();
        digestCountsTheSavedStates();
        digestOfForecasts();
        digestOfAmplification();
        nothingIsChanged();
        Check.end("ForecastsEdgesTest");
    }

    /** Promise 20, "page: 0 to 39" and "if there is no such page". */
    private static void ifWrittenPageRange() {
        Check.range("page", Check.INDEX, Scenes::few, 0, 39, (pages, page) -> pages.ifWritten(page, 0, 0));
        Check.range("page", Check.INDEX, Scenes::few, 0, 39, (pages, page) -> pages.ifWritten(page, 3, 2));
    }

    /** Promise 20, "hint: 0 to 3" and "if hint ... is out of range". */
    private static void ifWrittenHintRange() {
        Check.range("hint", Check.ARGUMENT, Scenes::few, 0, 3, (pages, hint) -> pages.ifWritten(39, hint, 1));
    }

    /** Promise 20, "what: 0 ... 2" and "if ... what is out of range". */
    private static void ifWrittenWhatRange() {
        Check.range("what", Check.ARGUMENT, Scenes::few, 0, 2, (pages, what) -> pages.ifWritten(0, 3, what));
    }

    /** Promise 20, with "the one that is named first": no such page ahead of hint and what. */
    private static void ifWrittenThrowsTheFirstNamed() {
        Check.refused("ifWritten(40, 4, 0)", Check.INDEX, Scenes::few, pages -> pages.ifWritten(40, 4, 0));
        Check.refused("ifWritten(-1, 0, 3)", Check.INDEX, Scenes::few, pages -> pages.ifWritten(-1, 0, 3));
        Check.refused("ifWritten(40, -1, -1)", Check.INDEX, Scenes::few, pages -> pages.ifWritten(40, -1, -1));
        Check.refused("ifWritten(39, 4, 3)", Check.ARGUMENT, Scenes::few, pages -> pages.ifWritten(39, 4, 3));
    }

    private static void tells(HintedPages pages, int page, int hint, int... due) {
        for (int what = 0; what < due.length; what++) {
            Check.same("ifWritten(.., " + what + ")", pages.ifWritten(page, hint, what), due[what]);
        }
        int erasures = pages.count(8);
        Check.same("copies by write", pages.write(page, hint), due[0]);
        Check.same("block by write", pages.page(page, 0), due[1]);
        Check.same("erasures by write", pages.count(8) - erasures, due[2]);
    }

    /** Promise 20, "Tells what writing a page would do": of the first call. */
    private static void ifWrittenInANewObject() {
        tells(new HintedPages(), 0, 0, 0, 0, 0);
        tells(new HintedPages(), 39, 3, 0, 0, 0);
    }

    /** Promise 20, with "as long as there are fewer free blocks than setting 1": as many, and fewer. */
    private static void ifWrittenWithAndWithoutCollecting() {
        tells(Scenes.spread(), 39, 2, 0, 10, 0);
        tells(Scenes.tight(), 39, 0, 2, 10, 2);
        tells(Scenes.tight(), 39, 2, 2, 0, 2);
        HintedPages kept = Scenes.spread();
        kept.set(1, 4);
        tells(kept, 39, 2, 3, 11, 3);
        HintedPages oldAlone = Scenes.tight();
        oldAlone.trim(0);
        tells(oldAlone, 39, 2, 0, 11, 1);
    }

    /** Promise 20, with "and there is a victim": many are kept, but no slot is old. */
    private static void ifWrittenWithoutVictim() {
        HintedPages pages = Scenes.packed();
        pages.set(1, 4);
        tells(pages, 0, 1, 0, 5, 0);
        tells(pages, 0, 2, 0, 6, 0);
        tells(pages, 0, 3, 0, 7, 0);
        tells(pages, 0, 0, 0, 8, 0);
        Check.same("three are free, fewer than kept", pages.count(1), 3);
        tells(pages, 0, 0, 7, 8, 1);
        tells(pages, 0, 3, 0, 7, 0);
    }

    /** Promise 20, with "until then its former slot stays valid, and can be copied". */
    private static void ifWrittenOfAPageInTheVictim() {
        tells(Scenes.tight(), 0, 3, 2, 0, 2);
        tells(Scenes.tight(), 1, 0, 2, 10, 2);
    }

    /** Promise 20, "the block in which it would be": the open one till it is full. */
    private static void ifWrittenFillsTheOpenBlock() {
        HintedPages pages = new HintedPages();
        for (int i = 0; i < 17; i++) {
            tells(pages, 5, 2, 0, i / 8, 0);
        }
    }

    /** Promise 21, "rounds: 1 to 9" and "if rounds is out of range". */
    private static void ifRewrittenRoundsRange() {
        Check.range("ifRewritten", Check.ARGUMENT, Scenes::few, 1, 9, HintedPages::ifRewritten);
    }

    /** Promise 21, "0 if it is not written": all pages with hint 0 in turn die together, block by block. */
    private static void ifRewrittenOfANewObject() {
        for (int rounds = 1; rounds <= 9; rounds++) {
            Check.same("rounds " + rounds, new HintedPages().ifRewritten(rounds), 0);
        }
    }

    private static HintedPages manyHints() {
        HintedPages pages = new HintedPages();
        for (int i = 0; i < 14; i++) {
            pages.writeRow(i * 11 % 33, 5, i % 4);
            pages.writeRow(i * 5 % 31, 3, (i + 1) % 4);
        }
        return pages;
    }

    /** Promise 21, "each with the hint that it has, 0 if it is not written": not that before a trim. */
    private static void ifRewrittenHintOfEachPage() {
        Scene trimmed = Scene.of(ForecastsEdgesTest::manyHints).then(pages -> pages.trim(1),
            pages -> pages.trim(14), pages -> pages.trim(20), pages -> pages.hint(5, 3), pages -> pages.hint(6, 0));
        for (int rounds = 1; rounds <= 9; rounds++) {
            int copies = trimmed.make().ifRewritten(rounds);
            Check.same("some are copied", copies > 0 ? 1 : 0, 1);
            Check.same("rounds " + rounds, copies, Scenes.rewrite(trimmed.make(), rounds));
        }
    }

    /** Promise 21, "rounds ...: so often all 40 pages are written": one more round tells no fewer. */
    private static void ifRewrittenRoundByRound() {
        HintedPages pages = manyHints();
        int before = 0;
        for (int rounds = 1; rounds <= 9; rounds++) {
            int copies = pages.ifRewritten(rounds);
            Check.same("no fewer", copies >= before ? 1 : 0, 1);
            before = copies;
        }
        Check.same("nine rounds tell more than one", before > pages.ifRewritten(1) ? 1 : 0, 1);
    }

    /** Promise 21, by "Settings": with each rule and each number of kept blocks. */
    private static void ifRewrittenWithTheSettings() {
        for (int rule = 0; rule <= 2; rule++) {
            for (int kept = 2; kept <= 4; kept++) {
                int value = rule;
                int free = kept;
                Scene set = Scene.of(ForecastsEdgesTest::manyHints).then(pages -> pages.set(0, value),
                    pages -> pages.set(1, free));
                Check.same("copies", set.make().ifRewritten(4), Scenes.rewrite(set.make(), 4));
            }
        }
    }

    /** Promise 22, "rounds: 1 to 9" and "if rounds is out of range". */
    private static void bestRuleRoundsRange() {
        Check.range("bestRule", Check.ARGUMENT, Scenes::few, 1, 9, HintedPages::bestRule);
    }

    /** Promise 22, "of several the lowest one": all three alike. */
    private static void bestRuleOfSeveralTheLowest() {
        for (int rule = 0; rule <= 2; rule++) {
            HintedPages pages = new HintedPages();
            pages.set(0, rule);
            for (int rounds = 1; rounds <= 9; rounds++) {
                Check.same("no copies by any rule", pages.bestRule(rounds), 0);
            }
        }
    }

    /** Promise 22, "the setting 0 with which fewest pages would be copied": not the one that is set. */
    private static void bestRuleWhateverTheRuleIs() {
        boolean[] told = new boolean[3];
        for (int seed = 0; seed < 40; seed++) {
            for (int rounds = 1; rounds <= 9; rounds += 4) {
                int best = bestByRules(seed, rounds);
                for (int rule = 0; rule <= 2; rule++) {
                    Check.same("rule " + rule + " is set", worn(seed, rule).bestRule(rounds), best);
                }
                told[best] = true;
            }
        }
        Check.same("each rule is best at times", told[0] && told[1] && told[2] ? 1 : 0, 1);
        int middle = worn(MIDDLE, 1).ifRewritten(1);
        int last = worn(MIDDLE, 2).ifRewritten(1);
        Check.same("two are better than rule 0", last < worn(MIDDLE, 0).ifRewritten(1) ? 1 : 0, 1);
        Check.same("the first of them is the best", middle < last ? 1 : 0, 1);
        Check.same("it is told", worn(MIDDLE, 0).bestRule(1), 1);
    }

    private static int bestByRules(int seed, int rounds) {
        int best = 0;
        for (int rule = 1; rule <= 2; rule++) {
            if (worn(seed, rule).ifRewritten(rounds) < worn(seed, best).ifRewritten(rounds)) {
                best = rule;
            }
        }
        return best;
    }

    private static HintedPages worn(int seed, int rule) {
        Dice dice = new Dice(seed);
        HintedPages pages = new HintedPages();
        for (int i = 0; i < 40; i++) {
            pages.writeRow(dice.below(35), 1 + dice.below(5), dice.below(4));
        }
        pages.set(1, 4);
        pages.set(0, rule);
        return pages;
    }

    private static void amplifies(HintedPages pages, double due) {
        Check.same("amplification", Double.doubleToLongBits(pages.amplification()), Double.doubleToLongBits(due));
    }

    /** Promise 23, "1.0 if that is 0": of a new object, and when all writes are undone. */
    private static void amplificationIs1WithoutWrites() {
        amplifies(new HintedPages(), 1.0);
        HintedPages pages = Scenes.packed();
        pages.collect(0);
        amplifies(pages, 1.2);
        pages.undo();
        amplifies(pages, 1.0);
        pages.undo();
        amplifies(pages, 1.0);
        Check.same("no writes", pages.count(6), 0);
    }

    /** Promise 23, "as a double, divided by count(6)": not rounded down. */
    private static void amplificationIsADouble() {
        HintedPages pages = new HintedPages();
        pages.writeRow(0, 9, 0);
        for (int copies = 8; copies <= 160; copies += 8) {
            pages.collect(pages.page(0, 0));
            amplifies(pages, (9.0 + copies) / 9.0);
        }
    }

    /** Promise 24, "The hash starts at 2731": a new object, all values written out. */
    private static void digestOfANewObject() {
        long hash = 2731;
        long[] counts = {0, 12, 0, 0, 0, 96, 0, 0, 0, 0, -1, 0};
        hash = mixed(hash, counts, 1);
        hash = mixed(hash, new long[] {0, 2}, 1);
        hash = mixed(hash, new long[] {-1, -1, -1, 0, 0, 0}, 40);
        hash = mixed(hash, new long[] {0, -1, 0, 0, 8, 0, -1, 0, -1, -1, -1, -1, -1, -1, -1, -1}, 12);
        hash = mixed(hash, new long[] {-1, 0, 0, 0, 0}, 5);
        hash = mixed(hash, new long[] {0, 0, 0}, 4);
        hash = mixed(hash, new long[] {0, 0, Double.doubleToLongBits(1.0)}, 1);
        Check.same("an empty buffer", new HintedPages().digest(), mixed(hash, new long[] {0}, 1));
        Check.same("two characters", Scenes.typed("!~").digest(), mixed(hash, new long[] {2, 33, 126}, 1));
    }

    private static long mixed(long start, long[] values, int times) {
        long hash = start;
        for (int i = 0; i < times; i++) {
            for (long value : values) {
                hash = 31 * hash + value;
            }
        }
        return hash;
    }

    /** Promise 24, "the length of the buffer and each of its character codes": empty, and full. */
    private static void digestCountsTheBuffer() {
        for (String text : new String[] {"", "!", "~", SIXTY}) {
            Scene typed = Scene.of(Scenes::packed).typed(text);
            Check.same("with " + text, typed.make().digest(), Looks.of(typed).digestWith(text));
        }
        HintedPages pages = Scenes.typed(SIXTY);
        pages.clearBuffer();
        Check.same("what was cleared counts no more", pages.digest(), new HintedPages().digest());
    }

    /** Promise 24, "count(0) to count(11)": the saved states are counted, from none to six. */
    private static void digestCountsTheSavedStates() {
        Scene scene = HintedPages::new;
        for (int saved = 0; saved <= 7; saved++) {
            Check.same("saved " + saved, scene.make().digest(), Looks.of(scene).digestWith(""));
            scene = scene.then(pages -> pages.tidy(1));
        }
    }

    /** Promise 24, "ifRewritten of 1; bestRule of 2": of a state in which other rounds tell others. */
    private static void digestOfForecasts() {
        Scene scene = () -> worn(UNLIKE_ROUNDS, 0);
        HintedPages pages = scene.make();
        Check.same("one round", pages.bestRule(1), 2);
        Check.same("two rounds", pages.bestRule(2), 1);
        Check.same("three rounds", pages.bestRule(3), 0);
        Check.same("one and two", pages.ifRewritten(1) == pages.ifRewritten(2) ? 1 : 0, 0);
        Check.same("digest", pages.digest(), Looks.of(scene).digestWith(""));
    }

    /** Promise 24, "the bits of amplification": below 2, at 2 and 4, and above. */
    private static void digestOfAmplification() {
        Scene scene = Scene.of(HintedPages::new).then(pages -> pages.writeRow(0, 8, 0));
        for (int copies = 0; copies <= 80; copies += 8) {
            Check.same("8 and " + copies, scene.make().digest(), Looks.of(scene).digestWith(""));
            scene = scene.then(pages -> pages.collect(pages.page(0, 0)));
        }
        Scene third = Scene.of(Scenes::tight).then(pages -> pages.writeRow(0, 39, 1), pages -> pages.tidy(12));
        Check.same("a long fraction", third.make().digest(), Looks.of(third).digestWith(""));
    }

    /** The public face, "what would be; nothing is changed", and nothing is saved. */
    private static void nothingIsChanged() {
        for (int hint = 0; hint <= 3; hint++) {
            int number = hint;
            Check.look("ifWritten", Scenes::few, pages -> pages.ifWritten(0, number, number % 3));
            Check.look("ifRewritten", Scenes::few, pages -> pages.ifRewritten(1 + number));
            Check.look("bestRule", Scenes::few, pages -> pages.bestRule(1 + number));
        }
        Check.look("ifRewritten", Scenes::packed, pages -> pages.ifRewritten(9));
        Check.look("bestRule", Scenes::packed, pages -> pages.bestRule(9));
        Check.look("amplification", Scenes::few, pages -> (long) pages.amplification());
        Check.look("digest", Scenes::few, HintedPages::digest);
    }
}
