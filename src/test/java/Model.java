import java.util.ArrayList;
import java.util.Arrays;
import java.util.HashSet;
import java.util.List;
import java.util.Set;
import java.util.TreeMap;
import java.util.TreeSet;

/** The document told a second time, with nothing kept ready: slow, but each sentence is found. */
final class Model {
    private static final int[] KEYS = {64, 512, 8};
    private static final int[] SEVERITY = {3, 3, 2, 2, 3, 3, 3, 3, 2, 1, 3, 2, 2, 1};

    private record Item(int kind, int key, int flags, Integer constant) {
        int access() {
            return flags % 4;
        }

        boolean isStatic() {
            return (flags & 4) > 0;
        }

        boolean isFinal() {
            return (flags & 8) > 0;
        }

        boolean isAbstract() {
            return (flags & 16) > 0;
        }

        boolean same(Item other) {
            return kind == other.kind && key == other.key;
        }
    }

    private record Found(int type, Item item) {
    }

    private record Finding(int rule, int type, int detail) {
    }

    private static final class Entry {
        final int kind;
        final int flags;
        final int parent;
        final List<Integer> interfaces = new ArrayList<>();
        final List<Item> items = new ArrayList<>();

        Entry(int kind, int flags, int parent) {
            this.kind = kind;
            this.flags = flags;
            this.parent = parent;
        }

        Entry twin() {
            Entry twin = new Entry(kind, flags, parent);
            twin.interfaces.addAll(interfaces);
            twin.items.addAll(items);
            return twin;
        }
    }

    private static final class Side {
        final TreeMap<Integer, Entry> entries = new TreeMap<>();

        boolean isOf(int number, int kind) {
            return entries.containsKey(number) && entries.get(number).kind == kind;
        }

        TreeSet<Integer> supers(int type) {
            TreeSet<Integer> all = new TreeSet<>();
            Entry entry = entries.get(type);
            if (entry == null) {
                return all;
            }
            List<Integer> direct = new ArrayList<>();
            if (isOf(entry.parent, 0)) {
                direct.add(entry.parent);
            }
            entry.interfaces.stream().filter(i -> isOf(i, 1)).forEach(direct::add);
            for (int each : direct) {
                all.add(each);
                all.addAll(supers(each));
            }
            return all;
        }

        Item own(int type, int kind, int key) {
            return entries.get(type).items.stream()
                    .filter(i -> i.kind == kind && i.key == key).findFirst().orElse(null);
        }

        Found lookUp(int type, int kind, int key) {
            if (!entries.containsKey(type)) {
                return null;
            }
            if (own(type, kind, key) != null) {
                return new Found(type, own(type, kind, key));
            }
            if (kind == 2) {
                return null;
            }
            return kind == 0 ? inheritedField(type, key) : inheritedMethod(type, key);
        }

        private Found inheritedField(int type, int key) {
            Entry entry = entries.get(type);
            for (int each : entry.interfaces) {
                Found found = isOf(each, 1) ? lookUp(each, 0, key) : null;
                if (found != null) {
                    return found;
                }
            }
            return isOf(entry.parent, 0) ? lookUp(entry.parent, 0, key) : null;
        }

        private Found inheritedMethod(int type, int key) {
            for (int up = entries.get(type).parent; isOf(up, 0); up = entries.get(up).parent) {
                if (own(up, 1, key) != null) {
                    return new Found(up, own(up, 1, key));
                }
            }
            List<Found> candidates = new ArrayList<>();
            for (int each : supers(type)) {
                if (isOf(each, 1) && own(each, 1, key) != null) {
                    candidates.add(new Found(each, own(each, 1, key)));
                }
            }
            for (Found each : candidates) {
                Item item = each.item;
                if (!item.isStatic() && item.access() != 0 && !item.isAbstract()) {
                    return each;
                }
            }
            return candidates.stream().filter(c -> c.item.isAbstract()).findFirst().orElse(null);
        }

        int items() {
            return entries.values().stream().mapToInt(e -> e.items.size()).sum();
        }
    }

    private Side old = new Side();
    private Side now = new Side();
    private final Set<List<Integer>> suppressions = new HashSet<>();

    private Side side(int baseline) {
        return baseline == 0 ? old : now;
    }

    private static boolean outside(int number, int low, int high) {
        return number < low || number > high;
    }

    private static boolean badType(int baseline, int type) {
        return outside(baseline, 0, 1) || outside(type, 0, 11);
    }

    int type(int baseline, int type, int kind, int flags, int parent) {
        if (badType(baseline, type) || outside(kind, 0, 1) || outside(flags, 0, 7)
                || outside(parent, -1, 11)) {
            return -1;
        }
        boolean bothAbstractAndFinal = flags >= 6;
        boolean badInterface = kind == 1 && (flags > 1 || parent >= 0);
        if (side(baseline).entries.containsKey(type) || parent >= type || badInterface
                || bothAbstractAndFinal) {
            return -1;
        }
        side(baseline).entries.put(type, new Entry(kind, flags, parent));
        return 1;
    }

    int implement(int baseline, int type, int other) {
        if (badType(baseline, type) || outside(other, 0, type - 1)) {
            return -1;
        }
        Entry entry = side(baseline).entries.get(type);
        if (entry == null || entry.interfaces.size() == 3 || entry.interfaces.contains(other)) {
            return -1;
        }
        entry.interfaces.add(other);
        return entry.interfaces.size();
    }

    int member(int baseline, int type, int kind, int key, int flags) {
        if (badType(baseline, type) || outside(kind, 0, 2) || outside(key, 0, KEYS[kind] - 1)
                || outside(flags, 0, 31)) {
            return -1;
        }
        Entry entry = side(baseline).entries.get(type);
        if (entry == null || entry.items.size() == 8) {
            return -1;
        }
        Item item = new Item(kind, key, flags, null);
        if (entry.items.stream().anyMatch(item::same) || isBad(item)
                || (entry.kind == 1 && isBadInInterface(item))) {
            return -1;
        }
        entry.items.add(item);
        return entry.items.size() - 1;
    }

    private static boolean isBad(Item item) {
        if (item.kind != 1 && item.isAbstract()) {
            return true;
        }
        if (item.kind == 2 && (item.isStatic() || item.isFinal())) {
            return true;
        }
        return item.isAbstract() && (item.access() == 0 || item.isStatic() || item.isFinal());
    }

    private static boolean isBadInInterface(Item item) {
        switch (item.kind) {
            case 0:
                return item.flags != 3 + 4 + 8;
            case 1:
                return item.isFinal() || item.access() == 1 || item.access() == 2;
            default:
                return true;
        }
    }

    private List<Item> itemsWith(int baseline, int type, int place) {
        if (badType(baseline, type) || !side(baseline).entries.containsKey(type)) {
            return null;
        }
        List<Item> items = side(baseline).entries.get(type).items;
        return outside(place, 0, items.size() - 1) ? null : items;
    }

    int constant(int baseline, int type, int place, int value) {
        List<Item> items = itemsWith(baseline, type, place);
        if (items == null || items.get(place).kind != 0) {
            return -1;
        }
        Item item = items.get(place);
        items.set(place, new Item(item.kind, item.key, item.flags, value));
        return item.constant == null ? 0 : 1;
    }

    int remove(int baseline, int type) {
        if (badType(baseline, type)) {
            return -1;
        }
        return side(baseline).entries.remove(type) == null ? -1 : 1;
    }

    int drop(int baseline, int type, int place) {
        List<Item> items = itemsWith(baseline, type, place);
        if (items == null) {
            return -1;
        }
        items.remove(place);
        return items.size();
    }

    int copy() {
        now = new Side();
        old.entries.forEach((number, entry) -> now.entries.put(number, entry.twin()));
        return now.entries.size();
    }

    void swap() {
        Side kept = old;
        old = now;
        now = kept;
    }

    int suppress(int rule, int type, boolean on) {
        if (outside(rule, 0, 13) || outside(type, 0, 11)) {
            return -1;
        }
        List<Integer> pair = Arrays.asList(rule, type);
        return (on ? suppressions.add(pair) : suppressions.remove(pair)) ? 1 : 0;
    }

    int supertypes(int baseline, int type) {
        if (badType(baseline, type)) {
            return -1;
        }
        return side(baseline).supers(type).stream().mapToInt(s -> 1 << s).sum();
    }

    int look(int baseline, int type, int kind, int key) {
        if (badType(baseline, type) || outside(kind, 0, 2) || outside(key, 0, KEYS[kind] - 1)) {
            return -1;
        }
        Found found = side(baseline).lookUp(type, kind, key);
        return found == null ? 12 : found.type;
    }

    private List<Finding> all() {
        List<Finding> all = new ArrayList<>();
        for (int t : old.entries.keySet()) {
            if (old.entries.get(t).flags % 2 == 1) {
                judge(t, all);
            }
        }
        return all;
    }

    private void judge(int t, List<Finding> all) {
        Entry before = old.entries.get(t);
        Entry after = now.entries.get(t);
        if (after == null || after.flags % 2 == 0) {
            all.add(new Finding(0, t, -1));
            return;
        }
        if (before.kind != after.kind) {
            all.add(new Finding(1, t, -1));
            return;
        }
        if ((before.flags & 2) == 0 && (after.flags & 2) != 0) {
            all.add(new Finding(2, t, -1));
        }
        if ((before.flags & 4) == 0 && (after.flags & 4) != 0) {
            all.add(new Finding(3, t, -1));
        }
        for (int s : old.supers(t)) {
            if (!now.supers(t).contains(s)) {
                all.add(new Finding(4, t, s));
            }
        }
        for (int rule = 5; rule <= 11; rule++) {
            for (int place = 0; place < before.items.size(); place++) {
                Item m = before.items.get(place);
                if (m.access() >= 2 && oldBreaks(rule, t, m)) {
                    all.add(new Finding(rule, t, place));
                }
            }
        }
        for (int rule = 12; rule <= 13; rule++) {
            for (int place = 0; place < after.items.size(); place++) {
                Item n = after.items.get(place);
                if (before.items.stream().noneMatch(n::same) && newBreaks(rule, t, n)) {
                    all.add(new Finding(rule, t, place));
                }
            }
        }
    }

    private boolean oldBreaks(int rule, int t, Item m) {
        Found found = now.lookUp(t, m.kind, m.key);
        if (found == null) {
            return rule == 5;
        }
        Item n = found.item;
        boolean method = m.kind == 1;
        boolean finalInOld = (old.entries.get(t).flags & 4) != 0;
        return switch (rule) {
            case 6 -> n.access() < m.access();
            case 7 -> m.isStatic() ^ n.isStatic();
            case 8 -> m.kind == 0 && !m.isFinal() && n.isFinal();
            case 9 -> m.constant != null && !m.constant.equals(n.constant);
            case 10 -> method && !m.isAbstract() && n.isAbstract();
            case 11 -> method && !m.isStatic() && !m.isFinal() && !finalInOld && n.isFinal();
            default -> false;
        };
    }

    private boolean newBreaks(int rule, int t, Item n) {
        Found found = old.lookUp(t, n.kind, n.key);
        if (rule == 13) {
            return n.kind == 1 && n.isAbstract() && found == null;
        }
        if (n.kind == 2 || found == null || found.item.access() < 2) {
            return false;
        }
        return n.access() < found.item.access() || n.isStatic() != found.item.isStatic();
    }

    private boolean quiet(Finding finding) {
        return suppressions.contains(Arrays.asList(finding.rule, finding.type));
    }

    int findings() {
        return all().size();
    }

    int finding(int index, int what) {
        List<Finding> all = all();
        if (outside(index, 0, all.size() - 1) || outside(what, 0, 4)) {
            return -1;
        }
        Finding finding = all.get(index);
        int[] answers = {finding.rule, finding.type, finding.detail, SEVERITY[finding.rule],
            quiet(finding) ? 1 : 0};
        return answers[what];
    }

    int verdict() {
        return all().stream().filter(f -> !quiet(f)).mapToInt(f -> SEVERITY[f.rule]).max()
                .orElse(0);
    }

    int byRule(int rule) {
        if (outside(rule, 0, 13)) {
            return -1;
        }
        return (int) all().stream().filter(f -> f.rule == rule && !quiet(f)).count();
    }

    int count(int what) {
        if (outside(what, 0, 4)) {
            return -1;
        }
        int[] answers = {old.entries.size(), now.entries.size(), old.items(), now.items(),
            suppressions.size()};
        return answers[what];
    }
}
