import java.util.ArrayList;
import java.util.List;

/**
 * The document's updater once more, in its most literal form: bytes are texts, instructions are
 * objects that grow byte by byte, ways are tried one after the other.
 */
final class Model {
    /** A COPY if literal is null, otherwise a LITERAL. */
    private static final class Instruction {
        int first = -1;
        int copied = 0;
        StringBuilder literal;

        int bytes() {
            return literal == null ? copied : literal.length();
        }
    }

    private static final class Patch {
        String base;
        String goal;
        final List<Instruction> instructions = new ArrayList<>();

        void addCopied(int place) {
            Instruction last = last();
            if (last == null || last.literal != null || last.first + last.copied != place) {
                last = new Instruction();
                last.first = place;
                instructions.add(last);
            }
            last.copied++;
        }

        void addLiteral(char sign) {
            Instruction last = last();
            if (last == null || last.literal == null) {
                last = new Instruction();
                last.literal = new StringBuilder();
                instructions.add(last);
            }
            last.literal.append(sign);
        }

        private Instruction last() {
            return instructions.isEmpty() ? null : instructions.get(instructions.size() - 1);
        }

        int cost() {
            int sum = 0;
            for (Instruction i : instructions) {
                sum += i.literal == null ? 5 : 2 + i.literal.length();
            }
            return sum;
        }
    }

    private String buffer = "";
    private final List<String> versions = new ArrayList<>();
    private final List<Patch> patches = new ArrayList<>();
    private String installed = "";
    private final List<String> history = new ArrayList<>();

    private static void needs(boolean holds, RuntimeException otherwise) {
        if (!holds) {
            throw otherwise;
        }
    }

    private static void needsIndex(boolean holds) {
        needs(holds, new IndexOutOfBoundsException());
    }

    private static void needsArgument(boolean holds) {
        needs(holds, new IllegalArgumentException());
    }

    private static void needsState(boolean holds) {
        needs(holds, new IllegalStateException());
    }

    private String version(int number) {
        needsIndex(number >= 0 && number < versions.size());
        return versions.get(number);
    }

    private Patch patch(int number) {
        needsIndex(number >= 0 && number < patches.size());
        return patches.get(number);
    }

    private static int sum(String bytes) {
        int a = 0;
        int b = 0;
        for (int i = 0; i < bytes.length(); i++) {
            a = (a + bytes.charAt(i)) % 256;
            b = (b + (bytes.length() - i) * bytes.charAt(i)) % 256;
        }
        return a + 256 * b;
    }

    private static List<String> blocks(String bytes, int size) {
        List<String> blocks = new ArrayList<>();
        for (int place = 0; place + size <= bytes.length(); place += size) {
            blocks.add(bytes.substring(place, place + size));
        }
        return blocks;
    }

    int feed(long bytes, int n) {
        needsArgument(1 <= n && n <= 8);
        needsState(buffer.length() + n <= 400);
        for (int i = n - 1; i >= 0; i--) {
            buffer += (char) Math.floorMod(Math.floorDiv(bytes, 1L << 8 * i), 256L);
        }
        return buffer.length();
    }

    int store() {
        needsState(versions.size() < 12);
        versions.add(buffer);
        buffer = "";
        return versions.size() - 1;
    }

    int versions() {
        return versions.size();
    }

    int length(int version) {
        return version(version).length();
    }

    int byteAt(int version, int place) {
        needsIndex(place >= 0 && place < version(version).length());
        return version(version).charAt(place);
    }

    boolean areSame(int a, int b) {
        return version(a).equals(version(b));
    }

    int weakSum(int version, int place, int n) {
        String bytes = version(version);
        needsArgument(1 <= n && n <= 32);
        needsArgument(place >= 0 && (long) place + n <= bytes.length());
        return sum(bytes.substring(place, place + n));
    }

    int collisions(int version, int size) {
        String bytes = version(version);
        needsArgument(2 <= size && size <= 32);
        List<String> blocks = blocks(bytes, size);
        int pairs = 0;
        for (int i = 0; i < blocks.size(); i++) {
            for (int j = i + 1; j < blocks.size(); j++) {
                String x = blocks.get(i);
                String y = blocks.get(j);
                pairs += sum(x) == sum(y) && !x.equals(y) ? 1 : 0;
            }
        }
        return pairs;
    }

    int differentBlocks(int version, int size) {
        String bytes = version(version);
        needsArgument(2 <= size && size <= 32);
        return (int) blocks(bytes, size).stream().distinct().count();
    }

    int difference(int base, int goal, int size) {
        Patch made = new Patch();
        made.base = version(base);
        made.goal = version(goal);
        needsArgument(2 <= size && size <= 32);
        needsState(patches.size() < 12);
        List<String> blocks = blocks(made.base, size);
        int last = -1;
        int place = 0;
        while (place < made.goal.length()) {
            int found = -1;
            if (made.goal.length() - place >= size) {
                String wanted = made.goal.substring(place, place + size);
                found = blocks.indexOf(wanted);
                if (last >= 0 && last + 1 < blocks.size() && blocks.get(last + 1).equals(wanted)) {
                    found = last + 1;
                }
            }
            if (found < 0) {
                made.addLiteral(made.goal.charAt(place));
                place++;
                continue;
            }
            for (int i = 0; i < size; i++) {
                made.addCopied(found * size + i);
            }
            last = found;
            place += size;
        }
        patches.add(made);
        return patches.size() - 1;
    }

    int compose(int p, int q) {
        Patch before = patch(p);
        Patch behind = patch(q);
        needsArgument(before.goal.equals(behind.base));
        needsState(patches.size() < 12);
        Patch made = new Patch();
        made.base = before.base;
        made.goal = behind.goal;
        for (Instruction i : behind.instructions) {
            for (int k = 0; k < i.bytes(); k++) {
                if (i.literal != null) {
                    made.addLiteral(i.literal.charAt(k));
                } else {
                    addWhatMade(before, i.first + k, made);
                }
            }
        }
        patches.add(made);
        return patches.size() - 1;
    }

    /** Adds what the patch made at a place of its goal. */
    private static void addWhatMade(Patch before, int place, Patch to) {
        int left = place;
        for (Instruction i : before.instructions) {
            if (left < i.bytes()) {
                if (i.literal != null) {
                    to.addLiteral(i.literal.charAt(left));
                } else {
                    to.addCopied(i.first + left);
                }
                return;
            }
            left -= i.bytes();
        }
    }

    int patches() {
        return patches.size();
    }

    int instructions(int patch) {
        return patch(patch).instructions.size();
    }

    int instruction(int patch, int instruction, int what) {
        Patch asked = patch(patch);
        needsIndex(instruction >= 0 && instruction < asked.instructions.size());
        needsIndex(what >= 0 && what <= 3);
        Instruction i = asked.instructions.get(instruction);
        boolean copy = i.literal == null;
        int[] told = {copy ? 0 : 1, copy ? i.first : -1, i.bytes(),
            copy ? -1 : sum(i.literal.toString())};
        return told[what];
    }

    int cost(int patch) {
        return patch(patch).cost();
    }

    double newness(int patch) {
        Patch asked = patch(patch);
        int literal = 0;
        for (Instruction i : asked.instructions) {
            literal += i.literal == null ? 0 : i.literal.length();
        }
        return asked.goal.isEmpty() ? 0 : (double) literal / asked.goal.length();
    }

    int apply(int patch, int version) {
        Patch applied = patch(patch);
        String bytes = version(version);
        needsArgument(bytes.equals(applied.base));
        needsState(versions.size() < 12);
        StringBuilder out = new StringBuilder();
        for (Instruction i : applied.instructions) {
            out.append(i.literal == null ? bytes.substring(i.first, i.first + i.copied) : i.literal);
        }
        versions.add(out.toString());
        return versions.size() - 1;
    }

    int steps(int from, int to) {
        List<String> reached = new ArrayList<>(List.of(version(from)));
        String end = version(to);
        for (int steps = 0; steps <= 12; steps++) {
            if (reached.contains(end)) {
                return steps;
            }
            List<String> next = new ArrayList<>(reached);
            for (Patch p : patches) {
                if (reached.contains(p.base)) {
                    next.add(p.goal);
                }
            }
            reached = next;
        }
        return -1;
    }

    int leastCost(int from, int to) {
        String start = version(from);
        String end = version(to);
        List<String> places = new ArrayList<>(List.of(start));
        List<Integer> costs = new ArrayList<>(List.of(0));
        boolean changed = true;
        while (changed) {
            changed = false;
            for (Patch p : patches) {
                int at = places.indexOf(p.base);
                if (at < 0) {
                    continue;
                }
                int cost = costs.get(at) + p.cost();
                int known = places.indexOf(p.goal);
                if (known < 0) {
                    places.add(p.goal);
                    costs.add(cost);
                    changed = true;
                } else if (cost < costs.get(known)) {
                    costs.set(known, cost);
                    changed = true;
                }
            }
        }
        return places.contains(end) ? costs.get(places.indexOf(end)) : -1;
    }

    private int install(String bytes) {
        if (history.size() == 20) {
            history.remove(0);
        }
        history.add(installed);
        installed = bytes;
        return history.size();
    }

    int installVersion(int version) {
        return install(version(version));
    }

    int installPatch(int patch) {
        needsArgument(patch(patch).base.equals(installed));
        return install(patch(patch).goal);
    }

    int rollBack() {
        needsState(!history.isEmpty());
        installed = history.remove(history.size() - 1);
        return history.size();
    }

    boolean isInstalled(int version) {
        return version(version).equals(installed);
    }

    int installedLength() {
        return installed.length();
    }

    long digest() {
        List<Integer> numbers = new ArrayList<>();
        addBytes(numbers, buffer);
        numbers.add(versions.size());
        for (String version : versions) {
            addBytes(numbers, version);
        }
        numbers.add(patches.size());
        for (int p = 0; p < patches.size(); p++) {
            numbers.add(instructions(p));
            for (int i = 0; i < instructions(p); i++) {
                for (int what = 0; what < 4; what++) {
                    numbers.add(instruction(p, i, what));
                }
            }
        }
        addBytes(numbers, installed);
        numbers.add(history.size());
        long d = 233;
        for (int number : numbers) {
            d = d * 31 + number;
        }
        return d;
    }

    private static void addBytes(List<Integer> numbers, String bytes) {
        numbers.add(bytes.length());
        for (int i = 0; i < bytes.length(); i++) {
            numbers.add((int) bytes.charAt(i));
        }
    }
}
