/** What can be looked at, of HintedPages and of SlowPages alike. */
interface Looks {
    int page(int page, int what);

    int block(int block, int what);

    int slot(int block, int slot, boolean isValid);

    int stream(int stream, int what);

    int count(int what);

    int setting(int setting);

    int ifWritten(int page, int hint, int what);

    int ifRewritten(int rounds);

    int bestRule(int rounds);

    double amplification();

    /** All that looks tell, but for the number of saved states. */
    default String all() {
        StringBuilder all = new StringBuilder("counts");
        for (int what = 0; what <= 10; what++) {
            all.append(' ').append(count(what));
        }
        all.append(" settings ").append(setting(0)).append(' ').append(setting(1));
        for (int page = 0; page < 40; page++) {
            all.append(" page");
            for (int what = 0; what <= 5; what++) {
                all.append(' ').append(page(page, what));
            }
        }
        for (int block = 0; block < 12; block++) {
            all.append(" block");
            for (int what = 0; what <= 7; what++) {
                all.append(' ').append(block(block, what));
            }
            for (int slot = 0; slot < 8; slot++) {
                all.append(' ').append(slot(block, slot, false)).append(' ').append(slot(block, slot, true));
            }
        }
        for (int stream = 0; stream < 5; stream++) {
            all.append(" stream");
            for (int what = 0; what <= 4; what++) {
                all.append(' ').append(stream(stream, what));
            }
        }
        return all.toString();
    }

    /** The digest by promise 24, made of looks. */
    default long digestWith(String buffer) {
        Hash hash = new Hash();
        for (int what = 0; what <= 11; what++) {
            hash.add(count(what));
        }
        hash.add(setting(0));
        hash.add(setting(1));
        for (int page = 0; page < 40; page++) {
            for (int what = 0; what <= 5; what++) {
                hash.add(page(page, what));
            }
        }
        for (int block = 0; block < 12; block++) {
            for (int what = 0; what <= 7; what++) {
                hash.add(block(block, what));
            }
            for (int slot = 0; slot < 8; slot++) {
                hash.add(slot(block, slot, false));
            }
        }
        for (int stream = 0; stream < 5; stream++) {
            for (int what = 0; what <= 4; what++) {
                hash.add(stream(stream, what));
            }
        }
        for (int hint = 0; hint < 4; hint++) {
            for (int what = 0; what <= 2; what++) {
                hash.add(ifWritten(0, hint, what));
            }
        }
        hash.add(ifRewritten(1));
        hash.add(bestRule(2));
        hash.add(Double.doubleToLongBits(amplification()));
        hash.add(buffer.length());
        for (char code : buffer.toCharArray()) {
            hash.add(code);
        }
        return hash.value;
    }

    final class Hash {
        private long value = 2731;

        private void add(long next) {
            value = 31 * value + next;
        }
    }

    static Looks of(Scene scene) {
        return new OfScene(scene);
    }

    /** Looks at objects that are made anew now and then, as each promises answers to 512 calls alone. */
    final class OfScene implements Looks {
        private static final int CALLS_OF_ONE = 250;

        private final Scene scene;
        private HintedPages latest;
        private int calls = CALLS_OF_ONE;

        private OfScene(Scene scene) {
            this.scene = scene;
        }

        private HintedPages pages() {
            if (calls == CALLS_OF_ONE) {
                latest = scene.make();
                calls = 0;
            }
            calls++;
            return latest;
        }

        @Override
        public int page(int page, int what) {
            return pages().page(page, what);
        }

        @Override
        public int block(int block, int what) {
            return pages().block(block, what);
        }

        @Override
        public int slot(int block, int slot, boolean isValid) {
            return pages().slot(block, slot, isValid);
        }

        @Override
        public int stream(int stream, int what) {
            return pages().stream(stream, what);
        }

        @Override
        public int count(int what) {
            return pages().count(what);
        }

        @Override
        public int setting(int setting) {
            return pages().setting(setting);
        }

        @Override
        public int ifWritten(int page, int hint, int what) {
            return pages().ifWritten(page, hint, what);
        }

        @Override
        public int ifRewritten(int rounds) {
            return pages().ifRewritten(rounds);
        }

        @Override
        public int bestRule(int rounds) {
            return pages().bestRule(rounds);
        }

        @Override
        public double amplification() {
            return pages().amplification();
        }
    }
}
