import java.util.ArrayList;
import java.util.Collection;
import java.util.HashSet;
import java.util.LinkedHashMap;
import java.util.List;
import java.util.Map;
import java.util.Set;
import java.util.TreeMap;
import java.util.TreeSet;

/**
 * A second telling of the document, slow and with names as texts of labels, to hold the program
 * against: nothing is kept sorted by hand, and nothing is remembered between two questions' steps.
 */
final class Model {
    private record SetId(int owner, int type) {}

    private static final class Signature {
        SetId set;
        int signer;
        int key;
        int labels;
        int first;
        int last;
        int mark;
    }

    private final Map<SetId, TreeSet<Integer>> sets = new LinkedHashMap<>();
    private final List<Signature> signatures = new ArrayList<>();
    private final Map<Integer, Integer> anchors = new TreeMap<>();
    private int first = 0;
    private int last = 1000;
    private int now = 0;

    private int askedName = 0;
    private int askedType = 0;
    private int why = 0;
    private int counted = 0;
    private List<Integer> zones = new ArrayList<>();

    /** A name's labels as a text of one character each, or null where it is no name. */
    static String labels(int name) {
        if ((name & ~0xFFFFF) != 0) {
            return null;
        }
        StringBuilder text = new StringBuilder();
        for (int k = 3; k >= 0; k--) {
            text.append((char) ('@' + (name >> 5 * k) % 32));
        }
        String whole = text.toString().replaceAll("@+$", "");
        return whole.matches("[A-Z\\[]*") ? whole : null;
    }

    static int nameOf(String labels) {
        int name = 0;
        for (char label : (labels + "@@@@").substring(0, 4).toCharArray()) {
            name = name * 32 + (label - '@');
        }
        return name;
    }

    private static int depth(int name) {
        return labels(name).length();
    }

    private static boolean isName(int name) {
        return labels(name) != null;
    }

    private static boolean isKey(int key) {
        return key >= 1 && key <= 1000000;
    }

    private static boolean isType(int type) {
        return type >= 1 && type <= 5;
    }

    private static boolean below(int name, int upper) {
        return name != upper && labels(name).startsWith(labels(upper));
    }

    private static int upTo(int name, int count) {
        return nameOf(labels(name).substring(0, count));
    }

    private static int star(int name) {
        return nameOf(labels(name) + "A");
    }

    private static int digest(Collection<Integer> numbers) {
        long h = 0;
        for (int x : numbers) {
            h = (h ^ x) * 0x9E3779B97F4A7C15L;
            h = h ^ (h >>> 30);
        }
        return (int) (h >>> 33);
    }

    private TreeSet<Integer> set(int owner, int type) {
        return sets.getOrDefault(new SetId(owner, type), new TreeSet<>());
    }

    private int recordCount() {
        return sets.values().stream().mapToInt(TreeSet::size).sum();
    }

    int add(int owner, int type, int data) {
        boolean fits = switch (type) {
            case 1, 2 -> true;
            case 3 -> data >= 0;
            case 4 -> isKey(data);
            case 5 -> data >= 0 && data >> 20 < 32 && isName(data % (1 << 20));
            default -> false;
        };
        if (!isName(owner) || !fits) {
            return -1;
        }
        if (!set(owner, type).contains(data)) {
            if (recordCount() == 48) {
                return -2;
            }
            sets.computeIfAbsent(new SetId(owner, type), id -> new TreeSet<>()).add(data);
        }
        return set(owner, type).size();
    }

    int drop(int owner, int type) {
        if (!isName(owner) || !isType(type)) {
            return -1;
        }
        TreeSet<Integer> gone = sets.remove(new SetId(owner, type));
        return gone == null ? 0 : gone.size();
    }

    boolean window(int newFirst, int newLast) {
        if (newFirst < 0 || newLast < newFirst) {
            return false;
        }
        first = newFirst;
        last = newLast;
        return true;
    }

    private int mark(Signature s) {
        List<Integer> numbers = new ArrayList<>(List.of(s.key, s.signer, s.set.type(), s.labels, s.first, s.last));
        int owner = s.set.owner();
        numbers.add(s.labels < depth(owner) ? star(upTo(owner, s.labels)) : owner);
        numbers.addAll(set(owner, s.set.type()));
        return digest(numbers);
    }

    int sign(int owner, int type, int signer, int key, int labels) {
        if (!isName(owner) || !isName(signer) || !isType(type) || !isKey(key)
                || labels < 0 || labels > depth(owner) || set(owner, type).isEmpty()) {
            return -1;
        }
        if (signatures.size() == 32) {
            return -2;
        }
        Signature s = new Signature();
        s.set = new SetId(owner, type);
        s.signer = signer;
        s.key = key;
        s.labels = labels;
        s.first = first;
        s.last = last;
        s.mark = mark(s);
        signatures.add(s);
        return signatures.size() - 1;
    }

    boolean spoil(int signature, int more) {
        if (signature < 0 || signature >= signatures.size()) {
            return false;
        }
        signatures.get(signature).mark += more;
        return true;
    }

    int seal(int zone, int key) {
        return isName(zone) && isKey(key) ? digest(List.of(77, zone, key)) : -1;
    }

    int anchor(int zone, int digest) {
        if (!isName(zone) || digest < 0) {
            return -1;
        }
        if (!anchors.containsKey(zone) && anchors.size() == 4) {
            return -2;
        }
        anchors.put(zone, digest);
        return anchors.size();
    }

    int tick(int n) {
        if (n < 0 || n > 100000) {
            return -1;
        }
        now += n;
        return now;
    }

    int ask(int name, int type) {
        if (!isName(name) || !isType(type)) {
            return -1;
        }
        askedName = name;
        askedType = type;
        counted = 0;
        zones = new ArrayList<>();
        why = search();
        return why == 1 ? 3 : why == 6 ? 1 : Set.of(8, 9, 12, 15, 16).contains(why) ? 0 : 2;
    }

    int reason() {
        return why;
    }

    int answer(int k) {
        List<Integer> datas = new ArrayList<>(set(askedName, askedType));
        return (why == 8 || why == 9) && k >= 0 && k < datas.size() ? datas.get(k) : 0;
    }

    int zone(int k) {
        return k >= 0 && k < zones.size() ? zones.get(k) : -1;
    }

    int figure(int what) {
        return switch (what) {
            case 0 -> recordCount();
            case 1 -> signatures.size();
            case 2 -> now;
            case 3 -> counted;
            default -> -1;
        };
    }

    int above(int name, int other) {
        if (!isName(name) || !isName(other)) {
            return -2;
        }
        return name == other ? 0 : below(other, name) ? -1 : 1;
    }

    private boolean good(Signature s, int zone, Collection<Integer> keys) {
        int owner = s.set.owner();
        return s.signer == zone && (owner == zone || below(owner, zone)) && keys.contains(s.key)
                && now >= s.first && now <= s.last && !set(owner, s.set.type()).isEmpty() && s.mark == mark(s);
    }

    private boolean plain(int owner, int type, int zone, Collection<Integer> keys) {
        return signatures.stream().anyMatch(s -> s.set.equals(new SetId(owner, type))
                && good(s, zone, keys) && s.labels == depth(owner));
    }

    private int search() {
        int z = -1;
        for (int anchor : anchors.keySet()) {
            if ((anchor == askedName || below(askedName, anchor)) && (z == -1 || depth(anchor) > depth(z))) {
                z = anchor;
            }
        }
        return z == -1 ? 1 : keysOf(z, Set.of(anchors.get(z)));
    }

    private int keysOf(int z, Set<Integer> trusted) {
        zones.add(z);
        counted = 0;
        Set<Integer> all = set(z, 4);
        if (all.isEmpty()) {
            return 2;
        }
        Set<Integer> sealed = new HashSet<>(all);
        sealed.removeIf(key -> !trusted.contains(seal(z, key)));
        if (sealed.isEmpty()) {
            return 3;
        }
        if (!plain(z, 4, z, sealed)) {
            return 4;
        }
        counted = all.size();
        return cutsOf(z, new HashSet<>(all));
    }

    private int cutsOf(int z, Set<Integer> keys) {
        for (int count = 0; count <= depth(askedName); count++) {
            int n = upTo(askedName, count);
            if (!below(n, z) || set(n, 2).isEmpty() || (n == askedName && askedType == 3)) {
                continue;
            }
            if (!set(n, 3).isEmpty()) {
                return plain(n, 3, z, keys) ? keysOf(n, new HashSet<>(set(n, 3))) : 5;
            }
            boolean open = plain(n, 5, z, keys) && told(n, 2) && !told(n, 3);
            return open ? 6 : 7;
        }
        return set(askedName, askedType).isEmpty() ? absent(z, keys) : present(z, keys);
    }

    private boolean told(int owner, int type) {
        int types = set(owner, 5).first() / (1 << 20);
        return types / (1 << (type - 1)) % 2 == 1;
    }

    private int present(int z, Set<Integer> keys) {
        if (plain(askedName, askedType, z, keys)) {
            return 8;
        }
        for (Signature s : signatures) {
            if (s.set.equals(new SetId(askedName, askedType)) && good(s, z, keys)) {
                return covered(upTo(askedName, s.labels + 1), z, keys) ? 9 : 10;
            }
        }
        return 11;
    }

    private Set<Integer> plainNexts(int z, Set<Integer> keys) {
        Set<Integer> owners = new TreeSet<>();
        for (SetId id : sets.keySet()) {
            if (id.type() == 5 && plain(id.owner(), 5, z, keys)) {
                owners.add(id.owner());
            }
        }
        return owners;
    }

    private boolean covered(int x, int z, Set<Integer> keys) {
        return plainNexts(z, keys).stream().anyMatch(a -> {
            int b = set(a, 5).first() % (1 << 20);
            return a < x && (x < b || b == z);
        });
    }

    private int absent(int z, Set<Integer> keys) {
        int q = askedName;
        if (plain(q, 5, z, keys)) {
            return told(q, askedType) ? 13 : 12;
        }
        if (q == z) {
            return 14;
        }
        int c = z;
        for (int count = depth(z) + 1; count < depth(q); count++) {
            int candidate = upTo(q, count);
            if (plainNexts(z, keys).stream().anyMatch(a -> a == candidate || below(a, candidate))) {
                c = candidate;
            }
        }
        if (!covered(upTo(q, depth(c) + 1), z, keys)) {
            return 14;
        }
        if (covered(star(c), z, keys)) {
            return 15;
        }
        return plain(star(c), 5, z, keys) && !told(star(c), askedType) ? 16 : 17;
    }
}
