/** The sentences of the promises 9 to 12 and of "Input text" that name a boundary case, a test each. */
public final class TextsEdgesTest {
    // Whole writes of just 60 characters.
    private static final String SIXTY = "0-39;".repeat(11) + "0-1h1";

    public static void main(String[] args) {
        bufferHasAtMost60Characters();
        appendCodeRange();
        appendThrowsTheFirstNamed();
        appendReturnsTheNewLength();
        appendSavesNothing();
        clearBufferReturnsTheLengthThatItHad();
        clearBufferSavesNothing();
        oneOrMoreParts();
        semicolonsBetweenParts();
        pagesFrom0To39();
        secondPageIsGreater();
        allPagesFromTheOneToTheOther();
        hintFrom0To3();
        hintIs0WithoutIt();
        noLeadingZeros();
        errorIfNoTextOfAnyLengthBegins();
        firstErrorOfAnEmptyBuffer();
        firstErrorIsTheFirst();
        firstErrorOfAFullBuffer();
        firstErrorChangesNothing();
        writeAllOfAnEmptyBuffer();
        writeAllOfATextThatEndsTooEarly();
        writeAllOfAnError();
        writeAllOfAFullBuffer();
        writeAllClearsTheBuffer();
        writeAllReturnsPages();
        writeAllPartByPart();
        writeAllIsUndoableAsOneCall();
        Check.end("TextsEdgesTest");
    }

    private static void answersDue(String text, int firstError, boolean isWhole) {
        Check.same("firstError of " + text, Scenes.typed(text).firstError(), firstError);
        if (isWhole) {
            Check.same("writeAll of " + text, Scenes.typed(text).writeAll() > 0 ? 1 : 0, 1);
        } else {
            Scene typed = Scene.of(Scenes::packed).typed(text);
            Check.refused("writeAll of " + text, Check.ARGUMENT, typed, HintedPages::writeAll);
        }
    }

    private static void whole(String text) {
        answersDue(text, text.length(), true);
    }

    private static void begun(String text) {
        answersDue(text, text.length(), false);
    }

    /** The last character is the first syntax error. */
    private static void wrong(String text) {
        answersDue(text, text.length() - 1, false);
    }

    /** Input text, "at most 60 characters", and promise 9, "if the buffer has 60 characters". */
    private static void bufferHasAtMost60Characters() {
        Scene fiftyNine = Scene.of(HintedPages::new).typed("x".repeat(59));
        Check.same("the 60th", fiftyNine.make().append('y'), 60);
        Scene sixty = fiftyNine.then(pages -> pages.append('y'));
        Check.refused("the 61st", Check.STATE, sixty, pages -> pages.append('z'));
        HintedPages pages = sixty.make();
        Check.same("cleared", pages.clearBuffer(), 60);
        Check.same("room again", pages.append('z'), 1);
    }

    /** Promise 9, "the character code, 33 to 126" and "if code is not 33 to 126". */
    private static void appendCodeRange() {
        Check.range("append", Check.ARGUMENT, Scenes::few, 33, 126, HintedPages::append);
    }

    /** Promise 9, with "the one that is named first": a wrong code ahead of a full buffer. */
    private static void appendThrowsTheFirstNamed() {
        Scene full = Scene.of(HintedPages::new).typed(SIXTY);
        Check.refused("32", Check.ARGUMENT, full, pages -> pages.append(32));
        Check.refused("127", Check.ARGUMENT, full, pages -> pages.append(127));
        Check.refused("33", Check.STATE, full, pages -> pages.append(33));
        Check.refused("126", Check.STATE, full, pages -> pages.append(126));
    }

    /** Promise 9, "Returns the new length of the buffer": from 1 to 60. */
    private static void appendReturnsTheNewLength() {
        HintedPages pages = new HintedPages();
        for (int length = 1; length <= 60; length++) {
            Check.same("length", pages.append(66 + length), length);
        }
    }

    /** Promise 9 is not marked "Undoable": nothing is saved, and undo leaves the buffer. */
    private static void appendSavesNothing() {
        HintedPages pages = Scene.of(Scenes::few).full().make();
        pages.append('1');
        Check.same("saved states", pages.count(11), 6);
        Check.same("the oldest is there", pages.undo(), 5);
        Check.same("undo leaves the buffer", pages.clearBuffer(), 7);
        Check.refusedAsItIs("nothing saved", Check.STATE, Scene.of(HintedPages::new).typed("1"), HintedPages::undo);
    }

    /** Promise 10, "Returns the length that it had": 0, 1, 59 and 60. */
    private static void clearBufferReturnsTheLengthThatItHad() {
        for (int length : new int[] {0, 1, 59, 60}) {
            HintedPages pages = Scenes.typed("h".repeat(length));
            Check.same("length", pages.clearBuffer(), length);
            Check.same("clear", pages.clearBuffer(), 0);
            Check.same("as a new object", pages.digest(), new HintedPages().digest());
        }
    }

    /** Promise 10 is not marked "Undoable": nothing is saved, and undo doesn't bring the text back. */
    private static void clearBufferSavesNothing() {
        HintedPages pages = Scenes.typed("7");
        pages.write(0, 0);
        pages.clearBuffer();
        Check.same("saved states", pages.count(11), 1);
        Check.same("undone", pages.undo(), 0);
        Check.same("still clear", pages.clearBuffer(), 0);
        Check.look("clearing an empty buffer", Scenes::packed, HintedPages::clearBuffer);
    }

    /** Input text, "one or more parts": none, one, and as many as there is room for. */
    private static void oneOrMoreParts() {
        begun("");
        whole("7");
        whole("7;8");
        whole("1;".repeat(29) + "10");
    }

    /** Input text, "with ";" between them": neither ahead, nor behind, nor two. */
    private static void semicolonsBetweenParts() {
        wrong(";");
        begun("1;");
        wrong("1;;");
        whole("1;1");
        begun("1-2;");
        whole("1-2;3");
        begun("1h0;");
        whole("1h0;3");
        begun("1-2h0;");
        wrong("1-;");
        wrong("1h;");
        wrong("1,");
        wrong("1:");
    }

    /** Input text, "each a page, 0 to 39": the ends, and what is beyond them. */
    private static void pagesFrom0To39() {
        for (int page = 0; page <= 39; page++) {
            whole(String.valueOf(page));
            Check.same("the page itself", pageOf(String.valueOf(page)), page);
        }
        for (int page = 40; page <= 99; page++) {
            wrong(String.valueOf(page));
        }
        wrong("100");
        wrong("390");
        wrong("/");
        wrong(":");
        wrong("+");
        wrong("a");
        whole("38-39");
        wrong("0-40");
        wrong("38-4");
        wrong("0-390");
        wrong("0-100");
    }

    /** The only page that is written by the text. */
    private static int pageOf(String text) {
        HintedPages pages = Scenes.typed(text);
        Check.same("one page", pages.writeAll(), 1);
        return pages.slot(0, 0, true);
    }

    /** Input text, "perhaps "-" and a page that is greater": greater by one, the same, and less by one. */
    private static void secondPageIsGreater() {
        for (int first = 0; first < 39; first++) {
            whole(first + "-" + (first + 1));
            whole(first + "-39");
        }
        wrong("39-");
        wrong("0-0");
        begun("1-1");
        wrong("1-1;");
        wrong("1-1h");
        wrong("1-0");
        begun("2-1");
        wrong("2-1;");
        wrong("4-4");
        wrong("9-8");
        wrong("9-9");
        begun("9-1");
        whole("9-10");
        wrong("10-10");
        whole("10-11");
        wrong("11-10");
        begun("28-2");
        whole("28-29");
        wrong("28-28");
        wrong("29-2");
        begun("29-3");
        whole("29-30");
        begun("38-3");
        wrong("38-38");
        wrong("38-37");
        wrong("1--");
        wrong("1-2-");
        wrong("-");
    }

    /** Input text, "(all pages from the one to the other are written, by ascending numbers)". */
    private static void allPagesFromTheOneToTheOther() {
        HintedPages pages = Scenes.typed("30-39h2");
        Check.same("ten pages", pages.writeAll(), 10);
        for (int i = 0; i < 10; i++) {
            Check.same("page " + (30 + i), pages.page(30 + i, 0) * 8 + pages.page(30 + i, 1), i);
        }
        Check.same("none ahead", pages.page(29, 0), -1);
        HintedPages two = Scenes.typed("0-1");
        Check.same("two pages", two.writeAll(), 2);
        Check.same("none behind", two.page(2, 0), -1);
        Check.same("all pages", Scenes.typed("0-39").writeAll(), 40);
    }

    /** Input text, "perhaps "h" and a hint, 0 to 3": the ends, and what is beyond them. */
    private static void hintFrom0To3() {
        for (int hint = 0; hint <= 3; hint++) {
            whole("39h" + hint);
            HintedPages pages = Scenes.typed("0-39h" + hint);
            pages.writeAll();
            Check.same("pages with it", pages.stream(hint, 2), 40);
        }
        for (int hint = 4; hint <= 9; hint++) {
            wrong("0h" + hint);
        }
        begun("0h");
        begun("0-1h");
        wrong("h");
        wrong("0-h");
        wrong("0h/");
        wrong("0h-");
        wrong("0hh");
        wrong("0H");
        wrong("0h00");
        wrong("0h33");
        wrong("0h0h");
        wrong("0h0-");
    }

    /** Input text, "(0 without it)": also behind a part that has one. */
    private static void hintIs0WithoutIt() {
        HintedPages pages = Scenes.typed("1h3;2;3-4h2;5-6");
        pages.writeAll();
        int[] due = {-1, 3, 0, 2, 2, 0, 0, -1};
        for (int page = 0; page < due.length; page++) {
            Check.same("hint of " + page, pages.page(page, 2), due[page]);
        }
        HintedPages again = new HintedPages();
        again.write(7, 3);
        again.append('7');
        again.writeAll();
        Check.same("not the one that it has", again.page(7, 2), 0);
    }

    /** Input text, "pages are without leading zeros": the first and the second page, 0 itself. */
    private static void noLeadingZeros() {
        whole("0");
        wrong("00");
        wrong("01");
        answersDue("039", 1, false);
        wrong("1-0");
        wrong("0-0");
        wrong("9-0");
        begun("0;0;");
        wrong("0;00");
        whole("0;0");
    }

    /** Input text, "if no writes as a text, of any length, begin with the characters before it and this". */
    private static void errorIfNoTextOfAnyLengthBegins() {
        begun("0-39;".repeat(12));
        begun("0-39;".repeat(11) + "1-10h");
        begun("1;".repeat(28) + "10-1");
        wrong("1;".repeat(28) + "39-");
        wrong("1;".repeat(28) + "10-9");
    }

    /** Promise 11, "the length of the buffer if there is none": 0 of an empty one. */
    private static void firstErrorOfAnEmptyBuffer() {
        Check.same("new", new HintedPages().firstError(), 0);
        HintedPages pages = Scenes.typed("xx");
        pages.clearBuffer();
        Check.same("cleared", pages.firstError(), 0);
        pages.append('1');
        Check.same("no error is left of it", pages.firstError(), 1);
    }

    /** Promise 11, "the index of the first character that is a syntax error": at 0, amid, of several. */
    private static void firstErrorIsTheFirst() {
        answersDue("x1;2", 0, false);
        answersDue("1x;2", 1, false);
        answersDue("1;2;x;x", 4, false);
        answersDue("40;1", 1, false);
        answersDue("1;40;400", 3, false);
        answersDue("1-1;1", 3, false);
    }

    /** Promise 11, "the length of the buffer": of a full one; and an error at its last character. */
    private static void firstErrorOfAFullBuffer() {
        Check.same("characters", SIXTY.length(), 60);
        whole(SIXTY);
        wrong(SIXTY.substring(0, 59) + "4");
        answersDue("x" + SIXTY.substring(1), 0, false);
    }

    /** Promise 11 is not marked "Undoable", and leaves the buffer as it is. */
    private static void firstErrorChangesNothing() {
        Check.look("firstError", Scenes::few, HintedPages::firstError);
        Check.look("firstError of an error", Scene.of(Scenes::few).typed("x"), HintedPages::firstError);
        Check.look("firstError of a full buffer", Scene.of(Scenes::packed).typed(SIXTY), HintedPages::firstError);
    }

    /** Promise 12, "if the buffer is not complete writes as a text": an empty one. */
    private static void writeAllOfAnEmptyBuffer() {
        Check.refused("new", Check.ARGUMENT, HintedPages::new, HintedPages::writeAll);
        Scene written = Scene.of(Scenes::packed).typed("5").then(HintedPages::writeAll);
        Check.refused("written", Check.ARGUMENT, written, HintedPages::writeAll);
    }

    /** Promise 12, "if the buffer is not complete": a text that ends too early. */
    private static void writeAllOfATextThatEndsTooEarly() {
        for (String text : new String[] {"1;", "1-", "1h", "1-2h", "1-2;", "5-3", "5-1", "1-1", "0-39;3;"}) {
            begun(text);
            Scene typed = Scene.of(Scenes::packed).typed(text);
            Check.same("the buffer stays", bufferBehindWriteAll(typed), text.length());
        }
        whole("5-39");
    }

    private static int bufferBehindWriteAll(Scene scene) {
        HintedPages pages = scene.make();
        Check.same("refused", Check.answer(pages::writeAll), Check.ARGUMENT);
        return pages.clearBuffer();
    }

    /** Promise 12, "if the buffer is not complete writes as a text": an error, also at the end. */
    private static void writeAllOfAnError() {
        answersDue("1;2;3x", 5, false);
        answersDue("1;2;3x;4", 5, false);
        answersDue("!1", 0, false);
        answersDue("1;;2", 2, false);
        answersDue("1;40", 3, false);
        answersDue("1h4", 2, false);
        answersDue("~", 0, false);
    }

    /** Promise 12, with "at most 60 characters": a full buffer is written. */
    private static void writeAllOfAFullBuffer() {
        HintedPages pages = Scenes.typed(SIXTY);
        Check.same("pages", pages.writeAll(), 442);
        Check.same("writes so far", pages.count(6), 442);
        Check.same("hint of the last part", pages.page(1, 2), 1);
        Check.same("one saved state", pages.count(11), 1);
    }

    /** Promise 12, "and clears the buffer". */
    private static void writeAllClearsTheBuffer() {
        HintedPages pages = Scenes.typed(SIXTY);
        pages.writeAll();
        Check.same("clear", pages.clearBuffer(), 0);
        Check.same("room again", pages.append('3'), 1);
        Check.same("written", pages.writeAll(), 1);
    }

    /** Promise 12, "Returns how many pages are written": one, all, and a page each time; no copies. */
    private static void writeAllReturnsPages() {
        Check.same("one", Scenes.typed("39").writeAll(), 1);
        Check.same("all", Scenes.typed("0-39h3").writeAll(), 40);
        Check.same("each time", Scenes.typed("5;5;4-6").writeAll(), 5);
        HintedPages pages = Scenes.tight();
        Scenes.type(pages, "39");
        Check.same("no copies", pages.writeAll(), 1);
        Check.same("copies so far", pages.count(7), 2);
    }

    /** Promise 12, "part by part": as the same pages written one by one. */
    private static void writeAllPartByPart() {
        String text = "9-11h3;5;10h1;0-39h2;39";
        Check.same("pages", Scenes.typed(text).writeAll(), 46);
        Scene byText = Scene.of(HintedPages::new).typed(text).then(HintedPages::writeAll);
        Scene oneByOne = Scene.of(HintedPages::new).then(pages -> pages.writeRow(9, 3, 3),
            pages -> pages.write(5, 0), pages -> pages.write(10, 1), pages -> pages.writeRow(0, 40, 2),
            pages -> pages.write(39, 0));
        Check.same("looks", Looks.of(byText).all(), Looks.of(oneByOne).all());
    }

    /** Promise 12, "Undoable, as one call"; the buffer stays clear behind undo. */
    private static void writeAllIsUndoableAsOneCall() {
        Check.undoable("writeAll", Scenes::few, TextsEdgesTest::typeAndWriteAll);
        HintedPages pages = Scenes.typed("0-39;1");
        pages.writeAll();
        Check.same("undone", pages.undo(), 0);
        Check.same("as a new object, with a clear buffer", pages.digest(), new HintedPages().digest());
    }

    private static long typeAndWriteAll(HintedPages pages) {
        pages.clearBuffer();
        Scenes.type(pages, "0-39h3;7-9");
        return pages.writeAll();
    }
}
