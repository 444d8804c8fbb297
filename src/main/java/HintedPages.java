import java.util.Arrays;

/**
 * Pages of a flash store that are written with hints of their lifetime, so that data that dies
 * together lies in one block.
 */
public final class HintedPages {
    /** There is nothing to return. */
    public static final int NONE = -1;

    private static final int PAGES = 40;
    private static final int BLOCKS = 12;
    private static final int SLOTS = 8;
    private static final int HINTS = 4;
    private static final int STREAMS = 5;
    private static final int COPY_STREAM = 4;

    private static final int SETTINGS = 2;
    private static final int RULE = 0;
    private static final int KEPT = 1;
    private static final int RULES = 3;
    private static final int LEAST_KEPT = 2;
    private static final int MOST_KEPT = 4;

    private static final int FREE = 0;
    private static final int OPEN = 1;
    private static final int CLOSED = 2;

    private static final int PAGE_PROPERTIES = 6;
    private static final int BLOCK_PROPERTIES = 8;
    private static final int STREAM_PROPERTIES = 5;
    private static final int COUNTS = 12;
    private static final int COUNT_OF_SAVED = 11;
    private static final int FORECASTS = 3;

    private static final int MOST_SAVED = 6;
    private static final int MOST_CODES = 60;
    private static final int LEAST_CODE = 33;
    private static final int MOST_CODE = 126;
    private static final int MOST_ROUNDS = 9;

    // Each victim takes an old slot away, so that far fewer are ever collected in a row.
    private static final int MOST_VICTIMS = 1000000;

    private Store store = new Store();
    // What would be is tried here, so that no call needs a new store.
    private final Store trial = new Store();
    // All are made at once and used again; those from savedStates on are spare.
    private final Store[] saved = new Store[MOST_SAVED];
    private int savedStates = 0;
    private final int[] codes = new int[MOST_CODES];
    private int length = 0;
    private final Reader reader = new Reader();

    /** Creates free blocks, with an empty buffer. */
    public HintedPages() {
        for (int i = 0; i < MOST_SAVED; i++) {
            saved[i] = new Store();
        }
    }

    // ---- pages

    /** Writes a page. Undoable. Returns how many pages are copied by it. */
    public int write(int page, int hint) throws IndexOutOfBoundsException, IllegalArgumentException {
        if (!isIn(page, PAGES)) {
            throw new IndexOutOfBoundsException("no such page");
        }
        if (!isIn(hint, HINTS)) {
            throw new IllegalArgumentException("hint out of range");
        }
        saveState();
        return store.writePages(page, page, hint);
    }

    /** Writes pages side by side. Undoable, as one call. Returns how many pages are copied by it. */
    public int writeRow(int first, int many, int hint)
            throws IndexOutOfBoundsException, IllegalArgumentException {
        if (!isIn(first, PAGES)) {
            throw new IndexOutOfBoundsException("no such page");
        }
        // Subtracted, as a sum with any int could wrap round.
        if (many < 1 || many > PAGES - first) {
            throw new IllegalArgumentException("many out of range");
        }
        if (!isIn(hint, HINTS)) {
            throw new IllegalArgumentException("hint out of range");
        }
        saveState();
        return store.writePages(first, first + many - 1, hint);
    }

    /** Trims a page. Undoable. Returns the block in which it was, NONE if it was not written. */
    public int trim(int page) throws IndexOutOfBoundsException {
        if (!isIn(page, PAGES)) {
            throw new IndexOutOfBoundsException("no such page");
        }
        saveState();
        int block = store.blockOf(page);
        store.forget(page);
        return block;
    }

    /** Changes the hint of a written page, which stays where it is. Undoable. Returns the previous one. */
    public int hint(int page, int hint)
            throws IndexOutOfBoundsException, IllegalArgumentException, IllegalStateException {
        if (!isIn(page, PAGES)) {
            throw new IndexOutOfBoundsException("no such page");
        }
        if (!isIn(hint, HINTS)) {
            throw new IllegalArgumentException("hint out of range");
        }
        if (!store.isWritten(page)) {
            throw new IllegalStateException("the page is not written");
        }
        saveState();
        int previous = store.hintOfPage[page];
        store.hintOfPage[page] = hint;
        return previous;
    }

    // ---- blocks

    /** Collects a closed block. Undoable. Returns how many pages are copied by it. */
    public int collect(int block) throws IndexOutOfBoundsException, IllegalStateException {
        if (!isIn(block, BLOCKS)) {
            throw new IndexOutOfBoundsException("no such block");
        }
        if (store.stateOf(block) != CLOSED) {
            throw new IllegalStateException("the block is not closed");
        }
        saveState();
        int before = store.copies();
        store.collectBlock(block);
        return store.copies() - before;
    }

    /** Collects victims until so many blocks are free. Undoable. Returns how many are collected. */
    public int tidy(int free) throws IllegalArgumentException {
        if (free < 1 || free > BLOCKS) {
            throw new IllegalArgumentException("free out of range");
        }
        saveState();
        return store.collectVictims(free);
    }

    /** Changes a setting. Undoable. Returns the previous value. */
    public int set(int setting, int value) throws IndexOutOfBoundsException, IllegalArgumentException {
        if (!isIn(setting, SETTINGS)) {
            throw new IndexOutOfBoundsException("no such setting");
        }
        if (!isSettingValue(setting, value)) {
            throw new IllegalArgumentException("value out of range");
        }
        saveState();
        int previous = store.settings[setting];
        store.settings[setting] = value;
        return previous;
    }

    // ---- texts

    /** Appends a character to the buffer. Returns the new length of the buffer. */
    public int append(int code) throws IllegalArgumentException, IllegalStateException {
        if (code < LEAST_CODE || code > MOST_CODE) {
            throw new IllegalArgumentException("code out of range");
        }
        if (length >= MOST_CODES) {
            throw new IllegalStateException("the buffer is full");
        }
        codes[length] = code;
        length++;
        return length;
    }

    /** Clears the buffer. Returns the length that it had. */
    public int clearBuffer() {
        int previous = length;
        length = 0;
        return previous;
    }

    /** Returns the index of the first syntax error, the length of the buffer if there is none. */
    public int firstError() {
        return readBuffer();
    }

    /** Writes the pages in the buffer, and clears it. Undoable. Returns how many pages are written. */
    public int writeAll() throws IllegalArgumentException {
        if (readBuffer() < length || !reader.isPartWhole()) {
            throw new IllegalArgumentException("the buffer is not complete");
        }
        saveState();
        int written = 0;
        reader.restart();
        for (int i = 0; i < length; i++) {
            reader.accepts(codes[i]);
            // The reader keeps a part until the next one begins.
            if (i + 1 == length || codes[i] == ';') {
                store.writePages(reader.first, reader.last, reader.hint);
                written += reader.last - reader.first + 1;
            }
        }
        length = 0;
        return written;
    }

    /** Restores the latest saved state, and drops it. Returns how many saved states are left. */
    public int undo() throws IllegalStateException {
        if (savedStates <= 0) {
            throw new IllegalStateException("there is no saved state");
        }
        savedStates--;
        // Changed places make the present store a spare one.
        Store present = store;
        store = saved[savedStates];
        saved[savedStates] = present;
        return savedStates;
    }

    // ---- looks; nothing is changed

    /** Returns a property of a page. */
    public int page(int page, int what) throws IndexOutOfBoundsException, IllegalArgumentException {
        if (!isIn(page, PAGES)) {
            throw new IndexOutOfBoundsException("no such page");
        }
        if (!isIn(what, PAGE_PROPERTIES)) {
            throw new IllegalArgumentException("what out of range");
        }
        return store.pageProperty(page, what);
    }

    /** Returns a property of a block. */
    public int block(int block, int what) throws IndexOutOfBoundsException, IllegalArgumentException {
        if (!isIn(block, BLOCKS)) {
            throw new IndexOutOfBoundsException("no such block");
        }
        if (!isIn(what, BLOCK_PROPERTIES)) {
            throw new IllegalArgumentException("what out of range");
        }
        return store.blockProperty(block, what);
    }

    /** Returns the page of a slot, NONE if it is blank (or not valid). */
    public int slot(int block, int slot, boolean isValid) throws IndexOutOfBoundsException {
        if (!isIn(block, BLOCKS) || !isIn(slot, SLOTS)) {
            throw new IndexOutOfBoundsException("no such slot");
        }
        int place = block * SLOTS + slot;
        return isValid ? store.validPageAt(place) : store.pageAt[place];
    }

    /** Returns a property of a stream. */
    public int stream(int stream, int what) throws IndexOutOfBoundsException, IllegalArgumentException {
        if (!isIn(stream, STREAMS)) {
            throw new IndexOutOfBoundsException("no such stream");
        }
        if (!isIn(what, STREAM_PROPERTIES)) {
            throw new IllegalArgumentException("what out of range");
        }
        return store.streamProperty(stream, what);
    }

    /** Returns a number. */
    public int count(int what) throws IllegalArgumentException {
        if (!isIn(what, COUNTS)) {
            throw new IllegalArgumentException("what out of range");
        }
        return what == COUNT_OF_SAVED ? savedStates : store.total(what);
    }

    /** Returns a setting. */
    public int setting(int setting) throws IndexOutOfBoundsException {
        if (!isIn(setting, SETTINGS)) {
            throw new IndexOutOfBoundsException("no such setting");
        }
        return store.settings[setting];
    }

    // ---- what would be; nothing is changed

    /** Tells what writing a page would do. */
    public int ifWritten(int page, int hint, int what)
            throws IndexOutOfBoundsException, IllegalArgumentException {
        if (!isIn(page, PAGES)) {
            throw new IndexOutOfBoundsException("no such page");
        }
        if (!isIn(hint, HINTS)) {
            throw new IllegalArgumentException("hint out of range");
        }
        if (!isIn(what, FORECASTS)) {
            throw new IllegalArgumentException("what out of range");
        }
        tryWriting(page, hint);
        return forecast(page, what);
    }

    /** Returns how many pages would be copied by writing all pages, so often. */
    public int ifRewritten(int rounds) throws IllegalArgumentException {
        if (rounds < 1 || rounds > MOST_ROUNDS) {
            throw new IllegalArgumentException("rounds out of range");
        }
        return copiesOfRewriting(store.settings[RULE], rounds);
    }

    /** Returns the rule for victims with which fewest pages would be copied by these. */
    public int bestRule(int rounds) throws IllegalArgumentException {
        if (rounds < 1 || rounds > MOST_ROUNDS) {
            throw new IllegalArgumentException("rounds out of range");
        }
        int best = 0;
        int fewest = copiesOfRewriting(0, rounds);
        for (int rule = 1; rule < RULES; rule++) {
            int copies = copiesOfRewriting(rule, rounds);
            if (copies < fewest) {
                best = rule;
                fewest = copies;
            }
        }
        return best;
    }

    /** Returns how much more is programmed than written. */
    public double amplification() {
        int writes = store.writes();
        if (writes == 0) {
            return 1.0;
        }
        return (double) (writes + store.copies()) / (double) writes;
    }

    /** Computes a hash of the whole state. */
    public long digest() {
        long hash = 2731L;
        for (int what = 0; what < COUNTS; what++) {
            hash = mixed(hash, count(what));
        }
        hash = mixed(hash, store.settings[RULE]);
        hash = mixed(hash, store.settings[KEPT]);
        hash = withPages(hash);
        hash = withBlocks(hash);
        hash = withStreams(hash);
        hash = withForecasts(hash);
        hash = mixed(hash, ifRewritten(1));
        hash = mixed(hash, bestRule(2));
        hash = mixed(hash, bitsOf(amplification()));
        hash = mixed(hash, length);
        for (int i = 0; i < length; i++) {
            hash = mixed(hash, codes[i]);
        }
        return hash;
    }

    private static boolean isIn(int number, int bound) {
        return number >= 0 && number < bound;
    }

    private static boolean isSettingValue(int setting, int value) {
        return setting == RULE ? isIn(value, RULES) : value >= LEAST_KEPT && value <= MOST_KEPT;
    }

    private void saveState() {
        if (savedStates == MOST_SAVED) {
            dropOldest();
        }
        saved[savedStates].becomeLike(store);
        savedStates++;
    }

    private void dropOldest() {
        Store oldest = saved[0];
        for (int i = 1; i < MOST_SAVED; i++) {
            saved[i - 1] = saved[i];
        }
        saved[MOST_SAVED - 1] = oldest;
        savedStates--;
    }

    private int readBuffer() {
        reader.restart();
        for (int i = 0; i < length; i++) {
            if (!reader.accepts(codes[i])) {
                return i;
            }
        }
        return length;
    }

    private void tryWriting(int page, int hint) {
        trial.becomeLike(store);
        trial.writePage(page, hint);
    }

    private int forecast(int page, int what) {
        switch (what) {
            case 0:
                return trial.copies() - store.copies();
            case 1:
                return trial.blockOf(page);
            default:
                return trial.erasures() - store.erasures();
        }
    }

    private int copiesOfRewriting(int rule, int rounds) {
        trial.becomeLike(store);
        trial.settings[RULE] = rule;
        for (int round = 0; round < rounds; round++) {
            for (int page = 0; page < PAGES; page++) {
                trial.writePage(page, trial.isWritten(page) ? trial.hintOfPage[page] : 0);
            }
        }
        return trial.copies() - store.copies();
    }

    private static long mixed(long hash, long value) {
        return 31L * hash + value;
    }

    private long withPages(long start) {
        long hash = start;
        for (int page = 0; page < PAGES; page++) {
            for (int what = 0; what < PAGE_PROPERTIES; what++) {
                hash = mixed(hash, store.pageProperty(page, what));
            }
        }
        return hash;
    }

    private long withBlocks(long start) {
        long hash = start;
        for (int block = 0; block < BLOCKS; block++) {
            for (int what = 0; what < BLOCK_PROPERTIES; what++) {
                hash = mixed(hash, store.blockProperty(block, what));
            }
            for (int slot = 0; slot < SLOTS; slot++) {
                hash = mixed(hash, store.pageAt[block * SLOTS + slot]);
            }
        }
        return hash;
    }

    private long withStreams(long start) {
        long hash = start;
        for (int stream = 0; stream < STREAMS; stream++) {
            for (int what = 0; what < STREAM_PROPERTIES; what++) {
                hash = mixed(hash, store.streamProperty(stream, what));
            }
        }
        return hash;
    }

    private long withForecasts(long start) {
        long hash = start;
        for (int hint = 0; hint < HINTS; hint++) {
            tryWriting(0, hint);
            for (int what = 0; what < FORECASTS; what++) {
                hash = mixed(hash, forecast(0, what));
            }
        }
        return hash;
    }

    /** As Double.doubleToLongBits, which the language leaves out, for a value from 1.0 on. */
    private static long bitsOf(double value) {
        double rest = value;
        long exponent = 1023L;
        for (int i = 0; i < 1023 && rest >= 2.0; i++) {
            rest = rest / 2.0;
            exponent++;
        }
        return (exponent << 52) + (long) ((rest - 1.0) * 4503599627370496.0);
    }

    /** All that undo restores. A place is a slot's number in the whole store. */
    private static final class Store {
        final int[] placeOfPage = new int[PAGES];
        final int[] hintOfPage = new int[PAGES];
        final int[] writesOfPage = new int[PAGES];
        final int[] copiesOfPage = new int[PAGES];
        final int[] copiesSinceWrite = new int[PAGES];
        final int[] pageAt = new int[BLOCKS * SLOTS];
        // NONE for free blocks alone.
        final int[] streamOfBlock = new int[BLOCKS];
        // Slots are programmed by ascending numbers, so that this is the first blank one, too.
        final int[] programmedOfBlock = new int[BLOCKS];
        final int[] validOfBlock = new int[BLOCKS];
        final int[] erasuresOfBlock = new int[BLOCKS];
        // Of use for closed blocks alone.
        final int[] closingOfBlock = new int[BLOCKS];
        final int[] openOfStream = new int[STREAMS];
        final int[] programmedOfStream = new int[STREAMS];
        final int[] copiesOfStream = new int[STREAMS];
        final int[] settings = new int[SETTINGS];
        int freeBlocks = BLOCKS;
        int closings = 0;

        Store() {
            Arrays.fill(placeOfPage, NONE);
            Arrays.fill(pageAt, NONE);
            Arrays.fill(streamOfBlock, NONE);
            Arrays.fill(openOfStream, NONE);
            settings[KEPT] = LEAST_KEPT;
        }

        void becomeLike(Store other) {
            copyRow(other.placeOfPage, placeOfPage);
            copyRow(other.hintOfPage, hintOfPage);
            copyRow(other.writesOfPage, writesOfPage);
            copyRow(other.copiesOfPage, copiesOfPage);
            copyRow(other.copiesSinceWrite, copiesSinceWrite);
            copyRow(other.pageAt, pageAt);
            copyRow(other.streamOfBlock, streamOfBlock);
            copyRow(other.programmedOfBlock, programmedOfBlock);
            copyRow(other.validOfBlock, validOfBlock);
            copyRow(other.erasuresOfBlock, erasuresOfBlock);
            copyRow(other.closingOfBlock, closingOfBlock);
            copyRow(other.openOfStream, openOfStream);
            copyRow(other.programmedOfStream, programmedOfStream);
            copyRow(other.copiesOfStream, copiesOfStream);
            copyRow(other.settings, settings);
            freeBlocks = other.freeBlocks;
            closings = other.closings;
        }

        private static void copyRow(int[] from, int[] to) {
            System.arraycopy(from, 0, to, 0, Math.min(from.length, to.length));
        }

        // ---- programming

        int writePages(int first, int last, int hint) {
            int before = copies();
            for (int page = first; page <= last && page < PAGES; page++) {
                writePage(page, hint);
            }
            return copies() - before;
        }

        void writePage(int page, int hint) {
            collectVictims(settings[KEPT]);
            // Only now, as a copy on the way belongs to the write and the hint before.
            hintOfPage[page] = hint;
            copiesSinceWrite[page] = 0;
            writesOfPage[page]++;
            program(page, hint, openBlock(hint));
        }

        void forget(int page) {
            int place = placeOfPage[page];
            if (place != NONE) {
                validOfBlock[place / SLOTS]--;
            }
            placeOfPage[page] = NONE;
            copiesSinceWrite[page] = 0;
        }

        private int openBlock(int stream) {
            if (openOfStream[stream] != NONE) {
                return openOfStream[stream];
            }
            int best = NONE;
            for (int block = 0; block < BLOCKS; block++) {
                if (streamOfBlock[block] == NONE
                        && (best == NONE || erasuresOfBlock[block] < erasuresOfBlock[best])) {
                    best = block;
                }
            }
            if (best != NONE) {
                streamOfBlock[best] = stream;
                openOfStream[stream] = best;
                freeBlocks--;
            }
            return best;
        }

        private void program(int page, int stream, int block) {
            // Can't be, as a write leaves a free block to the next call; but no index may go astray.
            if (block == NONE || programmedOfBlock[block] >= SLOTS) {
                return;
            }
            int former = placeOfPage[page];
            if (former != NONE) {
                validOfBlock[former / SLOTS]--;
            }
            int place = block * SLOTS + programmedOfBlock[block];
            placeOfPage[page] = place;
            pageAt[place] = page;
            validOfBlock[block]++;
            programmedOfBlock[block]++;
            programmedOfStream[stream]++;
            if (programmedOfBlock[block] == SLOTS) {
                openOfStream[stream] = NONE;
                closingOfBlock[block] = closings;
                closings++;
            }
        }

        // ---- collecting

        int collectVictims(int free) {
            int collected = 0;
            while (freeBlocks < free && collected < MOST_VICTIMS) {
                int block = victim();
                if (block == NONE) {
                    break;
                }
                collectBlock(block);
                collected++;
            }
            return collected;
        }

        int victim() {
            int best = NONE;
            int leastRank = 0;
            for (int block = 0; block < BLOCKS; block++) {
                if (programmedOfBlock[block] == SLOTS && validOfBlock[block] < SLOTS) {
                    int rank = rankOf(block);
                    if (best == NONE || rank < leastRank) {
                        best = block;
                        leastRank = rank;
                    }
                }
            }
            return best;
        }

        /** The rule first, then the valid slots: as one number, so that one comparison does. */
        private int rankOf(int block) {
            switch (settings[RULE]) {
                case 1:
                    return closingOfBlock[block];
                case 2:
                    return erasuresOfBlock[block] * (SLOTS + 1) + validOfBlock[block];
                default:
                    return validOfBlock[block];
            }
        }

        void collectBlock(int block) {
            for (int slot = 0; slot < SLOTS; slot++) {
                int page = validPageAt(block * SLOTS + slot);
                if (page != NONE) {
                    copiesOfPage[page]++;
                    copiesSinceWrite[page]++;
                    copiesOfStream[hintOfPage[page]]++;
                    program(page, COPY_STREAM, openBlock(COPY_STREAM));
                }
            }
            erase(block);
        }

        private void erase(int block) {
            for (int slot = 0; slot < SLOTS; slot++) {
                pageAt[block * SLOTS + slot] = NONE;
            }
            programmedOfBlock[block] = 0;
            validOfBlock[block] = 0;
            streamOfBlock[block] = NONE;
            erasuresOfBlock[block]++;
            freeBlocks++;
        }

        // ---- looks

        boolean isWritten(int page) {
            return placeOfPage[page] != NONE;
        }

        int blockOf(int page) {
            return isWritten(page) ? placeOfPage[page] / SLOTS : NONE;
        }

        int validPageAt(int place) {
            int page = pageAt[place];
            return page != NONE && placeOfPage[page] == place ? page : NONE;
        }

        int stateOf(int block) {
            if (streamOfBlock[block] == NONE) {
                return FREE;
            }
            return programmedOfBlock[block] < SLOTS ? OPEN : CLOSED;
        }

        int pageProperty(int page, int what) {
            switch (what) {
                case 0:
                    return blockOf(page);
                case 1:
                    return isWritten(page) ? placeOfPage[page] % SLOTS : NONE;
                case 2:
                    return isWritten(page) ? hintOfPage[page] : NONE;
                case 3:
                    return writesOfPage[page];
                case 4:
                    return copiesOfPage[page];
                default:
                    return copiesSinceWrite[page];
            }
        }

        int blockProperty(int block, int what) {
            switch (what) {
                case 0:
                    return stateOf(block);
                case 1:
                    return streamOfBlock[block];
                case 2:
                    return validOfBlock[block];
                case 3:
                    return programmedOfBlock[block] - validOfBlock[block];
                case 4:
                    return SLOTS - programmedOfBlock[block];
                case 5:
                    return erasuresOfBlock[block];
                case 6:
                    return closedAheadOf(block);
                default:
                    return unlikeHintsOf(block);
            }
        }

        private int closedAheadOf(int block) {
            if (stateOf(block) != CLOSED) {
                return NONE;
            }
            int ahead = 0;
            for (int other = 0; other < BLOCKS; other++) {
                if (stateOf(other) == CLOSED && closingOfBlock[other] < closingOfBlock[block]) {
                    ahead++;
                }
            }
            return ahead;
        }

        private int unlikeHintsOf(int block) {
            int hints = 0;
            for (int slot = 0; slot < SLOTS; slot++) {
                int page = validPageAt(block * SLOTS + slot);
                if (page != NONE) {
                    hints |= 1 << hintOfPage[page];
                }
            }
            return Integer.bitCount(hints);
        }

        int streamProperty(int stream, int what) {
            switch (what) {
                case 0:
                    return openOfStream[stream];
                case 1:
                    return programmedOfStream[stream];
                case 2:
                    return pagesWithHint(stream);
                case 3:
                    return copiesOfStream[stream];
                default:
                    return percentOf(stream);
            }
        }

        private int pagesWithHint(int hint) {
            int pages = 0;
            for (int page = 0; page < PAGES; page++) {
                if (isWritten(page) && hintOfPage[page] == hint) {
                    pages++;
                }
            }
            return pages;
        }

        private int percentOf(int stream) {
            int programmed = programmedOfStream[stream];
            return programmed == 0 ? 0 : 100 * (programmed + copiesOfStream[stream]) / programmed;
        }

        int total(int what) {
            switch (what) {
                case 0:
                    return sum(validOfBlock);
                case 1:
                    return freeBlocks;
                case 2:
                    return openBlocks();
                case 3:
                    return BLOCKS - freeBlocks - openBlocks();
                case 4:
                    return sum(programmedOfBlock) - sum(validOfBlock);
                case 5:
                    return BLOCKS * SLOTS - sum(programmedOfBlock);
                case 6:
                    return writes();
                case 7:
                    return copies();
                case 8:
                    return erasures();
                case 9:
                    return spreadOfErasures();
                default:
                    return victim();
            }
        }

        int writes() {
            return sum(writesOfPage);
        }

        // Nothing but copies is programmed for this stream.
        int copies() {
            return programmedOfStream[COPY_STREAM];
        }

        int erasures() {
            return sum(erasuresOfBlock);
        }

        private int openBlocks() {
            int open = 0;
            for (int stream = 0; stream < STREAMS; stream++) {
                if (openOfStream[stream] != NONE) {
                    open++;
                }
            }
            return open;
        }

        private int spreadOfErasures() {
            int most = erasuresOfBlock[0];
            int least = erasuresOfBlock[0];
            for (int block = 1; block < BLOCKS; block++) {
                most = Math.max(most, erasuresOfBlock[block]);
                least = Math.min(least, erasuresOfBlock[block]);
            }
            return most - least;
        }

        private static int sum(int[] row) {
            int sum = 0;
            for (int number : row) {
                sum += number;
            }
            return sum;
        }
    }

    /** Reads writes as a text, character by character; its last part stays till the next one begins. */
    private static final class Reader {
        private static final int PART = 0;
        private static final int FIRST = 1;
        private static final int DASH = 2;
        private static final int LAST = 3;
        private static final int MARK = 4;
        private static final int HINT = 5;

        // What was read latest.
        private int behind = PART;
        int first = 0;
        int last = 0;
        int hint = 0;

        void restart() {
            behind = PART;
        }

        boolean isPartWhole() {
            return behind == FIRST || behind == HINT || behind == LAST && last > first;
        }

        /** Whether a text can go on with this character; if not, the reader stays as it is. */
        boolean accepts(int code) {
            if (code >= '0' && code <= '9') {
                return acceptsDigit(code - '0');
            }
            switch (code) {
                case '-':
                    return goesOn(behind == FIRST && first < PAGES - 1, DASH);
                case 'h':
                    return goesOn(isPartWhole() && behind != HINT, MARK);
                case ';':
                    return goesOn(isPartWhole(), PART);
                default:
                    return false;
            }
        }

        private boolean acceptsDigit(int digit) {
            switch (behind) {
                case PART:
                    first = digit;
                    last = digit;
                    hint = 0;
                    return goesOn(true, FIRST);
                case FIRST:
                    return acceptsFirst(first * 10 + digit);
                case DASH:
                    return acceptsLast(digit, digit > first || mayGrow(digit) && digit * 10 + 9 > first);
                case LAST:
                    return acceptsLast(last * 10 + digit, mayGrow(last) && last * 10 + digit > first);
                case MARK:
                    return acceptsHint(digit);
                default:
                    return false;
            }
        }

        private boolean acceptsFirst(int number) {
            if (!mayGrow(first)) {
                return false;
            }
            first = number;
            last = number;
            return true;
        }

        private boolean acceptsLast(int number, boolean isLast) {
            if (!isLast) {
                return false;
            }
            last = number;
            return goesOn(true, LAST);
        }

        private boolean acceptsHint(int digit) {
            if (digit >= HINTS) {
                return false;
            }
            hint = digit;
            return goesOn(true, HINT);
        }

        private boolean goesOn(boolean isRight, int next) {
            if (isRight) {
                behind = next;
            }
            return isRight;
        }

        // With a second digit, these are just the pages 10 to 39.
        private static boolean mayGrow(int number) {
            return number >= 1 && number <= 3;
        }
    }
}
