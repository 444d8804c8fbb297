import java.util.function.LongSupplier;

/** Counts the answers of one test program that are as due, and those that are not. */
final class Check {
    private static int passed = 0;
    private static int failed = 0;

    private Check() {
    }

    static void same(String what, long got, long due) {
        tell(got == due, what, String.valueOf(got), String.valueOf(due));
    }

    static void same(String what, String got, String due) {
        tell(got.equals(due), what, got, due);
    }

    /** The answer of a call as a text; throws.NAME where it throws. */
    static String answer(LongSupplier call) {
        try {
            return String.valueOf(call.getAsLong());
        } catch (RuntimeException e) {
            return "throws." + e.getClass().getSimpleName();
        }
    }

    static void throwsIndex(String what, HintedPages pages, LongSupplier call) {
        throwsDue(what, "IndexOutOfBoundsException", pages, call);
    }

    static void throwsArgument(String what, HintedPages pages, LongSupplier call) {
        throwsDue(what, "IllegalArgumentException", pages, call);
    }

    static void throwsState(String what, HintedPages pages, LongSupplier call) {
        throwsDue(what, "IllegalStateException", pages, call);
    }

    // A call that throws changes nothing: the digest tells all but what the saved states hold.
    private static void throwsDue(String what, String due, HintedPages pages, LongSupplier call) {
        long before = pages.digest();
        same(what, answer(call), "throws." + due);
        same(what + " changes nothing", pages.digest(), before);
    }

    /** The call saves one state, and undo restores all looks. */
    static void undoable(String what, HintedPages pages, LongSupplier call) {
        int saved = Math.min(pages.count(11) + 1, 6);
        String before = Looks.of(pages).all();
        call.getAsLong();
        same(what + " saves a state", pages.count(11), saved);
        same(what + ", undone", pages.undo(), saved - 1);
        same(what + ", undone: looks", Looks.of(pages).all(), before);
        call.getAsLong();
    }

    /** Prints the counts; the program ends with exit code 1 if an answer was not as due. */
    static void end(String name) {
        System.out.println(name + ": " + passed + " answers as due, " + failed + " not");
        if (failed != 0 || passed == 0) {
            System.exit(1);
        }
    }

    private static void tell(boolean isDue, String what, String got, String due) {
        if (isDue) {
            passed++;
            return;
        }
        failed++;
        System.out.println(what + " answered " + got + ", due is " + due);
    }
}
