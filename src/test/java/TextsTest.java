/** Promises 9 to 13: append, clearBuffer, firstError, writeAll, undo. */
public final class TextsTest {
    public static void main(String[] args) {
        append();
        clearBuffer();
        firstError();
        writeAll();
        writeAllCollects();
        undo();
        undoOfManyStates();
        undoLeavesTheBuffer();
        Check.end("TextsTest");
    }

    private static void append() {
        HintedPages pages = new HintedPages();
        for (int length = 1; length <= 60; length++) {
            Check.same("length", pages.append(length % 2 == 0 ? 33 : 126), length);
        }
        Check.same("nothing is saved", pages.count(11), 0);
    }

    private static void clearBuffer() {
        HintedPages pages = Scenes.typed("1-2h3;");
        Check.same("length that it had", pages.clearBuffer(), 6);
        Check.same("empty", pages.clearBuffer(), 0);
        Check.same("nothing is saved", pages.count(11), 0);
        Check.same("begins anew", pages.append('4'), 1);
        Check.same("without an error", pages.firstError(), 1);
    }

    private static void firstError() {
        errorAt("", 0);
        errorAt("0", 1);
        errorAt("00", 1);
        errorAt("05", 1);
        errorAt("9", 1);
        errorAt("39", 2);
        errorAt("40", 1);
        errorAt("390", 2);
        errorAt("123", 2);
        errorAt(";", 0);
        errorAt("-", 0);
        errorAt("h", 0);
        errorAt("a", 0);
        errorAt("1a", 1);
        errorAt("1H", 1);
        errorAt("1-", 2);
        errorAt("1--", 2);
        errorAt("1-0", 2);
        errorAt("1-1", 3);
        errorAt("1-1;", 3);
        errorAt("1-1h", 3);
        errorAt("1-10", 4);
        errorAt("1-100", 4);
        errorAt("0-0", 2);
        errorAt("0-1", 3);
        errorAt("0-1;", 4);
        errorAt("19-1", 3);
        errorAt("18-1", 4);
        errorAt("18-19", 5);
        errorAt("18-18", 4);
        errorAt("5-4", 2);
        errorAt("5-6", 3);
        errorAt("5-60", 3);
        errorAt("5-3", 3);
        errorAt("5-39", 4);
        errorAt("38-39", 5);
        errorAt("38-38", 4);
        errorAt("38-4", 3);
        errorAt("39-", 2);
        errorAt("1-2-3", 3);
        errorAt("1h", 2);
        errorAt("1hh", 2);
        errorAt("1h3", 3);
        errorAt("1h4", 2);
        errorAt("1h3h", 3);
        errorAt("1h33", 3);
        errorAt("1h3-", 3);
        errorAt("1-h", 2);
        errorAt("1-2h0;", 6);
        errorAt("1;;", 2);
        errorAt("1;2;3h1;40", 9);
        errorAt("!\"#", 0);
        Check.same("a text that is cut off", Scenes.typed("0-39;".repeat(12)).firstError(), 60);
    }

    private static void errorAt(String text, int due) {
        HintedPages pages = Scenes.typed(text);
        Check.same("firstError of " + text, pages.firstError(), due);
        Check.same("the buffer stays", pages.clearBuffer(), text.length());
    }

    private static void writeAll() {
        HintedPages pages = Scenes.typed("20-39h3;7;0-3h2");
        Check.same("pages", pages.writeAll(), 25);
        Check.same("buffer is clear", pages.clearBuffer(), 0);
        Check.same("one saved state", pages.count(11), 1);
        Check.same("part by part", pages.page(20, 0), 0);
        Check.same("ascending", pages.page(39, 1), 3);
        Check.same("without a hint", pages.page(7, 2), 0);
        Check.same("its block", pages.page(7, 0), 3);
        Check.same("the third part", pages.page(0, 0), 4);
        Check.same("hint 2", pages.page(3, 2), 2);
        Check.same("hint 3", pages.page(30, 2), 3);
        Check.same("one page", Scenes.typed("0").writeAll(), 1);
        Check.same("the last page", Scenes.typed("39h1").writeAll(), 1);
        Check.same("each time", Scenes.typed("1;1;1-2").writeAll(), 4);
        HintedPages longest = Scenes.typed("0-39;".repeat(11) + "0-1h1");
        Check.same("sixty characters", longest.writeAll(), 442);
        Check.same("all in one state", longest.count(11), 1);
        Check.same("undone", longest.undo(), 0);
        Check.same("nothing written", longest.count(6), 0);
    }

    private static void writeAllCollects() {
        HintedPages pages = Scenes.tight();
        Scenes.type(pages, "39;38");
        Check.same("pages, not copies", pages.writeAll(), 2);
        Check.same("copies", pages.count(7), 2);
        HintedPages byRow = Scenes.tight();
        byRow.writeRow(38, 2, 1);
        HintedPages byText = Scenes.tight();
        Scenes.type(byText, "38-39h1");
        byText.writeAll();
        Check.same("as by a row", byText.digest(), byRow.digest());
    }

    private static void undo() {
        HintedPages pages = new HintedPages();
        long first = pages.digest();
        pages.write(1, 1);
        long second = pages.digest();
        pages.set(0, 2);
        pages.trim(1);
        Check.same("two left", pages.undo(), 2);
        Check.same("written again", pages.page(1, 2), 1);
        Check.same("one left", pages.undo(), 1);
        Check.same("as before the second", pages.digest(), second);
        Check.same("none left", pages.undo(), 0);
        Check.same("as at first", pages.digest(), first);
        pages.write(2, 2);
        Check.same("a state again", pages.count(11), 1);
        Check.same("it goes on", pages.page(2, 0), 0);
        Check.same("without page 1", pages.page(1, 3), 0);
    }

    private static void undoOfManyStates() {
        HintedPages pages = new HintedPages();
        for (int page = 0; page < 9; page++) {
            pages.write(page, 0);
            Check.same("saved", pages.count(11), Math.min(page + 1, 6));
        }
        for (int left = 5; left >= 0; left--) {
            Check.same("left", pages.undo(), left);
            Check.same("written pages", pages.count(0), left + 3);
            Check.same("writes", pages.count(6), left + 3);
        }
        pages.write(20, 3);
        pages.write(21, 3);
        pages.undo();
        Check.same("undone once", pages.page(21, 0), -1);
        Check.same("kept", pages.page(20, 0), 1);
        Check.same("undone twice", pages.undo(), 0);
        Check.same("not kept", pages.page(20, 0), -1);
        pages.write(22, 3);
        Check.same("and once more", pages.undo(), 0);
        Check.same("nothing of it is left", pages.page(22, 3), 0);
    }

    private static void undoLeavesTheBuffer() {
        HintedPages pages = new HintedPages();
        pages.write(1, 0);
        Scenes.type(pages, "3-5h2");
        Check.same("undo", pages.undo(), 0);
        Check.same("the buffer stays", pages.firstError(), 5);
        Check.same("and is written", pages.writeAll(), 3);
        pages.undo();
        Check.same("and stays clear", pages.clearBuffer(), 0);
    }
}
