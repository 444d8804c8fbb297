/** Makes an object by calls, the same each time, so that several can be compared. */
interface Scene {
    HintedPages make();

    static Scene of(Scene scene) {
        return scene;
    }

    default Scene then(Call... calls) {
        return () -> {
            HintedPages pages = make();
            for (Call call : calls) {
                call.on(pages);
            }
            return pages;
        };
    }

    default Scene undone(int times) {
        return () -> {
            HintedPages pages = make();
            for (int i = 0; i < times; i++) {
                pages.undo();
            }
            return pages;
        };
    }

    default Scene typed(String text) {
        return then(pages -> Scenes.type(pages, text));
    }

    /** The same present state, if the settings are those of a new object, with six saved states. */
    default Scene full() {
        return then(pages -> pages.set(1, 3), pages -> pages.set(1, 4), pages -> pages.set(0, 2),
            pages -> pages.set(0, 1), pages -> pages.set(0, 0), pages -> pages.set(1, 2));
    }
}
