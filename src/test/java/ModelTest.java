/** Promises 1 to 24: long runs of calls on HintedPages and on SlowPages answer alike. */
public final class ModelTest {
    private static final String INDEX = Check.INDEX;
    private static final String ARGUMENT = Check.ARGUMENT;
    private static final String STATE = Check.STATE;
    // No step makes more calls than are left to 512.
    private static final int CALLS = 460;

    private final Dice dice;
    private final HintedPages pages = new HintedPages();
    private final SlowPages slow = new SlowPages();
    // Runs differ in how many pages they use, as few pages leave other victims than many.
    private final int pagesUsed;
    private final int run;
    private int calls = 0;

    private ModelTest(int run) {
        this.run = run;
        dice = new Dice(run);
        pagesUsed = run % 3 == 0 ? 40 : 8 + dice.below(32);
    }

    public static void main(String[] args) {
        for (int run = 1; run <= 400; run++) {
            new ModelTest(run).steps();
        }
        Check.end("ModelTest");
    }

    private void steps() {
        while (calls < CALLS) {
            change(dice.below(16));
            look(dice.below(9));
            if (dice.below(8) == 0) {
                digest();
            }
        }
        digest();
    }

    private void digest() {
        same("digest", "" + pages.digest(), "" + slow.digestWith(slow.buffer));
    }

    private void same(String call, String got, String due) {
        calls++;
        Check.same("run " + run + ": " + call, got, due);
    }

    private void change(int kind) {
        switch (kind) {
            case 0, 1, 2, 3, 4 -> write();
            case 5, 6 -> writeRow();
            case 7 -> trim();
            case 8 -> hint();
            case 9 -> collect();
            case 10 -> tidy();
            case 11 -> set();
            case 12, 13 -> text();
            case 14 -> undo();
            default -> append();
        }
    }

    private int anyPage() {
        return dice.about(0, pagesUsed - 1);
    }

    private static boolean isIn(int number, int least, int most) {
        return number >= least && number <= most;
    }

    private void write() {
        int page = anyPage();
        int hint = dice.about(0, 3);
        String due = !isIn(page, 0, 39) ? INDEX : !isIn(hint, 0, 3) ? ARGUMENT : "" + slow.write(page, hint);
        same("write", Check.answer(() -> pages.write(page, hint)), due);
    }

    private void writeRow() {
        int first = anyPage();
        int many = dice.about(1, 12);
        int hint = dice.about(0, 3);
        String due = !isIn(first, 0, 39) ? INDEX
            : !isIn(many, 1, 40 - first) || !isIn(hint, 0, 3) ? ARGUMENT : "" + slow.writeRow(first, many, hint);
        same("writeRow", Check.answer(() -> pages.writeRow(first, many, hint)), due);
    }

    private void trim() {
        int page = anyPage();
        String due = !isIn(page, 0, 39) ? INDEX : "" + slow.trim(page);
        same("trim", Check.answer(() -> pages.trim(page)), due);
    }

    private void hint() {
        int page = anyPage();
        int hint = dice.about(0, 3);
        String due = !isIn(page, 0, 39) ? INDEX : !isIn(hint, 0, 3) ? ARGUMENT
            : !slow.isWritten(page) ? STATE : "" + slow.hint(page, hint);
        same("hint", Check.answer(() -> pages.hint(page, hint)), due);
    }

    private void collect() {
        int block = dice.about(0, 11);
        String due = !isIn(block, 0, 11) ? INDEX : !slow.isClosed(block) ? STATE : "" + slow.collect(block);
        same("collect", Check.answer(() -> pages.collect(block)), due);
    }

    private void tidy() {
        int free = dice.about(1, dice.below(3) == 0 ? 12 : 4);
        String due = !isIn(free, 1, 12) ? ARGUMENT : "" + slow.tidy(free);
        same("tidy", Check.answer(() -> pages.tidy(free)), due);
    }

    private void set() {
        int setting = dice.about(0, 1);
        int value = setting == 0 ? dice.about(0, 2) : dice.about(2, 4);
        boolean isRight = setting == 0 ? isIn(value, 0, 2) : isIn(value, 2, 4);
        String due = !isIn(setting, 0, 1) ? INDEX : !isRight ? ARGUMENT : "" + slow.set(setting, value);
        same("set", Check.answer(() -> pages.set(setting, value)), due);
    }

    private void text() {
        clear();
        for (int i = dice.below(3); i >= 0; i--) {
            String part = Parts.part(dice.below(Parts.number()));
            for (char character : part.toCharArray()) {
                append(character);
            }
            if (i > 0 || dice.below(10) == 0) {
                append(';');
            }
        }
        if (dice.below(4) == 0) {
            append();
        }
        same("firstError", "" + pages.firstError(), "" + slow.firstError());
        String due = slow.isComplete() ? "" + slow.writeAll() : ARGUMENT;
        same("writeAll", Check.answer(pages::writeAll), due);
    }

    private void append() {
        append(dice.below(3) == 0 ? dice.about(33, 126) : "0123456789-h;".charAt(dice.below(13)));
    }

    private void append(int code) {
        String due = ARGUMENT;
        if (isIn(code, 33, 126)) {
            due = STATE;
            if (slow.buffer.length() < 60) {
                slow.buffer += (char) code;
                due = "" + slow.buffer.length();
            }
        }
        same("append", Check.answer(() -> pages.append(code)), due);
    }

    private void clear() {
        same("clearBuffer", "" + pages.clearBuffer(), "" + slow.buffer.length());
        slow.buffer = "";
    }

    private void undo() {
        for (int i = dice.below(7); i >= 0; i--) {
            String due = slow.savedStates() == 0 ? STATE : "" + slow.undo();
            same("undo", Check.answer(pages::undo), due);
        }
    }

    private void look(int kind) {
        switch (kind) {
            case 0 -> page();
            case 1 -> block();
            case 2 -> slot();
            case 3 -> stream();
            case 4 -> count();
            case 5 -> ifWritten();
            case 6 -> rounds();
            case 7 -> rest();
            default -> same("firstError", "" + pages.firstError(), "" + slow.firstError());
        }
    }

    private void page() {
        int page = anyPage();
        int what = dice.about(0, 5);
        String due = !isIn(page, 0, 39) ? INDEX : !isIn(what, 0, 5) ? ARGUMENT : "" + slow.page(page, what);
        same("page", Check.answer(() -> pages.page(page, what)), due);
    }

    private void block() {
        int block = dice.about(0, 11);
        int what = dice.about(0, 7);
        String due = !isIn(block, 0, 11) ? INDEX : !isIn(what, 0, 7) ? ARGUMENT : "" + slow.block(block, what);
        same("block", Check.answer(() -> pages.block(block, what)), due);
    }

    private void slot() {
        int block = dice.about(0, 11);
        int slot = dice.about(0, 7);
        boolean isValid = dice.below(2) == 0;
        String due = !isIn(block, 0, 11) || !isIn(slot, 0, 7) ? INDEX : "" + slow.slot(block, slot, isValid);
        same("slot", Check.answer(() -> pages.slot(block, slot, isValid)), due);
    }

    private void stream() {
        int stream = dice.about(0, 4);
        int what = dice.about(0, 4);
        String due = !isIn(stream, 0, 4) ? INDEX : !isIn(what, 0, 4) ? ARGUMENT : "" + slow.stream(stream, what);
        same("stream", Check.answer(() -> pages.stream(stream, what)), due);
    }

    private void count() {
        int what = dice.about(0, 11);
        String due = !isIn(what, 0, 11) ? ARGUMENT : "" + slow.count(what);
        same("count", Check.answer(() -> pages.count(what)), due);
    }

    private void ifWritten() {
        int page = anyPage();
        int hint = dice.about(0, 3);
        int what = dice.about(0, 2);
        String due = !isIn(page, 0, 39) ? INDEX : !isIn(hint, 0, 3) || !isIn(what, 0, 2) ? ARGUMENT
            : "" + slow.ifWritten(page, hint, what);
        same("ifWritten", Check.answer(() -> pages.ifWritten(page, hint, what)), due);
    }

    private void rounds() {
        int rounds = dice.about(1, 9);
        if (dice.below(8) != 0) {
            same("setting", Check.answer(() -> pages.setting(rounds)),
                isIn(rounds, 0, 1) ? "" + slow.setting(rounds) : INDEX);
            return;
        }
        boolean isRight = isIn(rounds, 1, 9);
        same("ifRewritten", Check.answer(() -> pages.ifRewritten(rounds)),
            isRight ? "" + slow.ifRewritten(rounds) : ARGUMENT);
        same("bestRule", Check.answer(() -> pages.bestRule(rounds)),
            isRight ? "" + slow.bestRule(rounds) : ARGUMENT);
    }

    private void rest() {
        same("setting", "" + pages.setting(0), "" + slow.setting(0));
        same("setting", "" + pages.setting(1), "" + slow.setting(1));
        same("amplification", "" + pages.amplification(), "" + slow.amplification());
    }
}
