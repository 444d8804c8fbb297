import java.util.function.LongSupplier;

/** Counts the answers of one test program that are as due, and those that are not. */
final class Check {
    static final String INDEX = "throws.IndexOutOfBoundsException";
    static final String ARGUMENT = "throws.IllegalArgumentException";
    static final String STATE = "throws.IllegalStateException";

    private static int passed = 0;
    private static int failed = 0;

    private Check() {
    }

    static void same(String what, long got, long due) {
        tell(got == due, what, String.valueOf(got), String.valueOf(due));
    }

    static void same(String what, String got, String due) {
        tell(got.equals(due), what, got, due);
    }

    /** The answer of a call as a text; throws.NAME where it throws. */
    static String answer(LongSupplier call) {
        try {
            return String.valueOf(call.getAsLong());
        } catch (RuntimeException e) {
            return "throws." + e.getClass().getSimpleName();
        }
    }

    /** The call throws, changes nothing and saves nothing: neither with few saved states nor with most. */
    static void refused(String what, String due, Scene scene, Call call) {
        refusedAsItIs(what, due, scene, call);
        refusedAsItIs(what, due, scene.full(), call);
    }

    /** As refused(), with the saved states that the scene has. */
    static void refusedAsItIs(String what, String due, Scene scene, Call call) {
        HintedPages pages = scene.make();
        same(what, answer(() -> call.on(pages)), due);
        alike(what + " changes nothing", pages, scene.make());
    }

    /** The call answers, changes nothing and saves nothing. */
    static void look(String what, Scene scene, Call call) {
        for (Scene each : new Scene[] {scene, scene.full()}) {
            HintedPages pages = each.make();
            same(what + " answers", isThrown(answer(() -> call.on(pages))) ? 0 : 1, 1);
            alike(what + " changes nothing", pages, each.make());
        }
    }

    /** All numbers of the range are answered; those beside it, and far from it, are refused. */
    static void range(String what, String due, Scene scene, int least, int most, CallWith call) {
        for (int number = least; number <= most; number++) {
            int right = number;
            HintedPages pages = scene.make();
            String answer = answer(() -> call.on(pages, right));
            same(what + " " + number + " is answered", isThrown(answer) ? answer : "", "");
        }
        int[] wrongs = {least - 1, most + 1, Integer.MIN_VALUE, Integer.MAX_VALUE, least + 65536, least - 65536};
        for (int wrong : wrongs) {
            refused(what + " " + wrong, due, scene, pages -> call.on(pages, wrong));
        }
    }

    /** The call saves one state, and undo restores it; those saved before stay, but for a seventh. */
    static void undoable(String what, Scene scene, Call call) {
        for (Scene before : new Scene[] {scene, scene.full()}) {
            HintedPages pages = before.make();
            int saved = Math.min(pages.count(11) + 1, 6);
            call.on(pages);
            same(what + " saves one state", pages.count(11), saved);
            for (int undone = 1; undone <= saved; undone++) {
                same(what + ", undone", answer(pages::undo), String.valueOf(saved - undone));
                same(what + ", undone: looks", Looks.of(before.then(call).undone(undone)).all(),
                    Looks.of(before.undone(undone - 1)).all());
            }
            same(what + ", no more states", answer(pages::undo), STATE);
        }
    }

    /** Both are in the same state, and so are all states that they saved. */
    static void alike(String what, HintedPages pages, HintedPages due) {
        same(what, pages.digest(), due.digest());
        for (int left = due.count(11) - 1; left >= 0; left--) {
            same(what + ", undone", answer(pages::undo), String.valueOf(left));
            due.undo();
            same(what + ", undone", pages.digest(), due.digest());
        }
        same(what + ", no more states", answer(pages::undo), STATE);
    }

    /** Prints the counts; the program ends with exit code 1 if an answer was not as due. */
    static void end(String name) {
        System.out.println(name + ": " + passed + " answers as due, " + failed + " not");
        if (failed != 0 || passed == 0) {
            System.exit(1);
        }
    }

    private static boolean isThrown(String answer) {
        return answer.startsWith("throws.");
    }

    private static void tell(boolean isDue, String what, String got, String due) {
        if (isDue) {
            passed++;
            return;
        }
        failed++;
        System.out.println(what + " answered " + got + ", due is " + due);
    }
}
