import java.util.ArrayList;
import java.util.HashSet;
import java.util.List;
import java.util.Set;
import java.util.TreeSet;

/**
 * The document once more, in the plainest form: everything is a list, nothing is counted ahead, and
 * what would be is tried on a copy. It takes right arguments alone.
 */
final class SlowPages implements Looks {
    /** A programmed slot. */
    private static final class Slot {
        final int page;
        boolean isValid = true;

        Slot(int page) {
            this.page = page;
        }
    }

    private static final class Block {
        final List<Slot> slots = new ArrayList<>();
        int stream = -1;
        int erasures = 0;
    }

    private static final class State {
        final List<Block> blocks = new ArrayList<>();
        final List<Integer> closed = new ArrayList<>();
        final List<Integer> open = new ArrayList<>(List.of(-1, -1, -1, -1, -1));
        final int[] hint = new int[40];
        // Each write and copy so far: the page, the hint, and -1 for a write.
        final List<int[]> programmed = new ArrayList<>();
        final int[] setting = {0, 2};
    }

    private State now = new State();
    private final List<State> saved = new ArrayList<>();
    String buffer = "";

    SlowPages() {
        for (int i = 0; i < 12; i++) {
            now.blocks.add(new Block());
        }
    }

    private static State copyOf(State state) {
        State copy = new State();
        for (Block block : state.blocks) {
            Block other = new Block();
            for (Slot slot : block.slots) {
                Slot same = new Slot(slot.page);
                same.isValid = slot.isValid;
                other.slots.add(same);
            }
            other.stream = block.stream;
            other.erasures = block.erasures;
            copy.blocks.add(other);
        }
        copy.closed.addAll(state.closed);
        copy.open.clear();
        copy.open.addAll(state.open);
        System.arraycopy(state.hint, 0, copy.hint, 0, 40);
        copy.programmed.addAll(state.programmed);
        copy.setting[0] = state.setting[0];
        copy.setting[1] = state.setting[1];
        return copy;
    }

    private void save() {
        saved.add(copyOf(now));
        if (saved.size() > 6) {
            saved.remove(0);
        }
    }

    private static List<Integer> freeOf(State state) {
        List<Integer> free = new ArrayList<>();
        for (int i = 0; i < 12; i++) {
            if (state.blocks.get(i).slots.isEmpty()) {
                free.add(i);
            }
        }
        return free;
    }

    private static int validOf(Block block) {
        int valid = 0;
        for (Slot slot : block.slots) {
            valid += slot.isValid ? 1 : 0;
        }
        return valid;
    }

    private static int blockOf(State state, int page) {
        for (int i = 0; i < 12; i++) {
            for (Slot slot : state.blocks.get(i).slots) {
                if (slot.page == page && slot.isValid) {
                    return i;
                }
            }
        }
        return -1;
    }

    private static void program(State state, int page, int stream) {
        if (state.open.get(stream) == -1) {
            int best = -1;
            for (int free : freeOf(state)) {
                if (best == -1 || state.blocks.get(free).erasures < state.blocks.get(best).erasures) {
                    best = free;
                }
            }
            state.open.set(stream, best);
            state.blocks.get(best).stream = stream;
        }
        forget(state, page);
        int open = state.open.get(stream);
        state.blocks.get(open).slots.add(new Slot(page));
        if (state.blocks.get(open).slots.size() == 8) {
            state.closed.add(open);
            state.open.set(stream, -1);
        }
    }

    private static void forget(State state, int page) {
        for (Block block : state.blocks) {
            for (Slot slot : block.slots) {
                if (slot.page == page) {
                    slot.isValid = false;
                }
            }
        }
    }

    private static int victimOf(State state) {
        List<Integer> ordered = new ArrayList<>();
        for (int block : new TreeSet<>(state.closed)) {
            if (validOf(state.blocks.get(block)) < 8) {
                ordered.add(block);
            }
        }
        // Both sorts keep the order of equals.
        ordered.sort((a, b) -> validOf(state.blocks.get(a)) - validOf(state.blocks.get(b)));
        if (state.setting[0] == 1) {
            ordered.sort((a, b) -> state.closed.indexOf(a) - state.closed.indexOf(b));
        }
        if (state.setting[0] == 2) {
            ordered.sort((a, b) -> state.blocks.get(a).erasures - state.blocks.get(b).erasures);
        }
        return ordered.isEmpty() ? -1 : ordered.get(0);
    }

    private static int collect(State state, int number) {
        Block block = state.blocks.get(number);
        int copies = 0;
        for (Slot slot : block.slots) {
            if (slot.isValid) {
                state.programmed.add(new int[] {slot.page, state.hint[slot.page], 0});
                program(state, slot.page, 4);
                copies++;
            }
        }
        block.slots.clear();
        block.stream = -1;
        block.erasures++;
        state.closed.remove((Integer) number);
        return copies;
    }

    private static int[] makeRoom(State state, int free) {
        int copies = 0;
        int collected = 0;
        while (freeOf(state).size() < free && victimOf(state) != -1) {
            copies += collect(state, victimOf(state));
            collected++;
        }
        return new int[] {copies, collected};
    }

    private static int write(State state, int page, int hint) {
        int copies = makeRoom(state, state.setting[1])[0];
        state.hint[page] = hint;
        state.programmed.add(new int[] {page, hint, -1});
        program(state, page, hint);
        return copies;
    }

    int write(int page, int hint) {
        save();
        return write(now, page, hint);
    }

    int writeRow(int first, int many, int hint) {
        save();
        int copies = 0;
        for (int page = first; page < first + many; page++) {
            copies += write(now, page, hint);
        }
        return copies;
    }

    int trim(int page) {
        save();
        int block = blockOf(now, page);
        forget(now, page);
        return block;
    }

    int hint(int page, int hint) {
        save();
        int previous = now.hint[page];
        now.hint[page] = hint;
        return previous;
    }

    boolean isWritten(int page) {
        return blockOf(now, page) != -1;
    }

    boolean isClosed(int block) {
        return now.closed.contains(block);
    }

    int savedStates() {
        return saved.size();
    }

    int collect(int block) {
        save();
        return collect(now, block);
    }

    int tidy(int free) {
        save();
        return makeRoom(now, free)[1];
    }

    int set(int setting, int value) {
        save();
        int previous = now.setting[setting];
        now.setting[setting] = value;
        return previous;
    }

    int firstError() {
        return Parts.firstError(buffer);
    }

    boolean isComplete() {
        return Parts.areWrites(buffer);
    }

    int writeAll() {
        save();
        int written = 0;
        for (String part : buffer.split(";")) {
            String[] halves = part.split("h");
            String[] ends = halves[0].split("-");
            int hint = halves.length == 1 ? 0 : Integer.parseInt(halves[1]);
            for (int page = Integer.parseInt(ends[0]); page <= Integer.parseInt(ends[ends.length - 1]); page++) {
                write(now, page, hint);
                written++;
            }
        }
        buffer = "";
        return written;
    }

    int undo() {
        now = saved.remove(saved.size() - 1);
        return saved.size();
    }

    @Override
    public int page(int page, int what) {
        int block = blockOf(now, page);
        int[] counted = new int[3];
        for (int[] each : now.programmed) {
            if (each[0] == page && each[2] == -1) {
                counted[0]++;
                counted[2] = 0;
            } else if (each[0] == page) {
                counted[1]++;
                counted[2]++;
            }
        }
        if (what > 2) {
            return what == 5 && block == -1 ? 0 : counted[what - 3];
        }
        if (block == -1 || what == 0) {
            return block;
        }
        return what == 2 ? now.hint[page] : slotOf(block, page);
    }

    private int slotOf(int block, int page) {
        for (int slot = 0; slot < 8; slot++) {
            if (slot(block, slot, true) == page) {
                return slot;
            }
        }
        return -1;
    }

    @Override
    public int block(int number, int what) {
        Block block = now.blocks.get(number);
        int used = block.slots.size();
        Set<Integer> hints = new HashSet<>();
        for (Slot slot : block.slots) {
            if (slot.isValid) {
                hints.add(now.hint[slot.page]);
            }
        }
        int kind = used == 0 ? 0 : now.open.contains(number) ? 1 : 2;
        int[] answers = {kind, block.stream, validOf(block), used - validOf(block), 8 - used, block.erasures,
            now.closed.indexOf(number), hints.size()};
        return answers[what];
    }

    @Override
    public int slot(int block, int slot, boolean isValid) {
        List<Slot> slots = now.blocks.get(block).slots;
        if (slot >= slots.size() || isValid && !slots.get(slot).isValid) {
            return -1;
        }
        return slots.get(slot).page;
    }

    @Override
    public int stream(int stream, int what) {
        int programmed = 0;
        int copies = 0;
        for (int[] each : now.programmed) {
            programmed += (each[2] == -1 ? each[1] : 4) == stream ? 1 : 0;
            copies += each[2] == 0 && each[1] == stream ? 1 : 0;
        }
        int pages = 0;
        for (int page = 0; page < 40; page++) {
            pages += page(page, 2) == stream ? 1 : 0;
        }
        int share = programmed == 0 ? 0 : 100 * (programmed + copies) / programmed;
        return new int[] {now.open.get(stream), programmed, pages, copies, share}[what];
    }

    @Override
    public int count(int what) {
        int[] sums = new int[12];
        int most = 0;
        int least = Integer.MAX_VALUE;
        for (int block = 0; block < 12; block++) {
            sums[0] += block(block, 2);
            sums[1 + block(block, 0)]++;
            sums[4] += block(block, 3);
            sums[5] += block(block, 4);
            sums[8] += block(block, 5);
            most = Math.max(most, block(block, 5));
            least = Math.min(least, block(block, 5));
        }
        for (int[] each : now.programmed) {
            sums[each[2] == -1 ? 6 : 7]++;
        }
        sums[9] = most - least;
        sums[10] = victimOf(now);
        sums[11] = saved.size();
        return sums[what];
    }

    @Override
    public int setting(int setting) {
        return now.setting[setting];
    }

    @Override
    public int ifWritten(int page, int hint, int what) {
        State then = copyOf(now);
        int copies = write(then, page, hint);
        int erased = 0;
        for (int block = 0; block < 12; block++) {
            erased += then.blocks.get(block).erasures - now.blocks.get(block).erasures;
        }
        return new int[] {copies, blockOf(then, page), erased}[what];
    }

    @Override
    public int ifRewritten(int rounds) {
        return copiesBy(now.setting[0], rounds);
    }

    private int copiesBy(int rule, int rounds) {
        State then = copyOf(now);
        then.setting[0] = rule;
        int copies = 0;
        for (int i = 0; i < 40 * rounds; i++) {
            copies += write(then, i % 40, blockOf(then, i % 40) == -1 ? 0 : then.hint[i % 40]);
        }
        return copies;
    }

    @Override
    public int bestRule(int rounds) {
        int[] copies = {copiesBy(0, rounds), copiesBy(1, rounds), copiesBy(2, rounds)};
        int fewest = Math.min(copies[0], Math.min(copies[1], copies[2]));
        return copies[0] == fewest ? 0 : copies[1] == fewest ? 1 : 2;
    }

    @Override
    public double amplification() {
        return count(6) == 0 ? 1.0 : (double) (count(6) + count(7)) / count(6);
    }
}
