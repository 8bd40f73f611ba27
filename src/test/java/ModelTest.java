import java.util.ArrayList;
import java.util.Arrays;
import java.util.HashMap;
import java.util.List;
import java.util.Map;
import java.util.TreeMap;
import java.util.TreeSet;

/**
 * Long runs of mixed calls, each answer beside that of Model: a second telling of the document, with objects and
 * real copies (of the cache, of every SIGHT), so that what the class leaves out as needless is checked here.
 * The runs are the same every time: a counter makes them.
 */
public final class ModelTest {
    private static final int RUNS = 6000, CALLS = 512;
    private static final String[] NAMES = {"mode", "make", "persist", "get", "refer", "read", "write", "remove", "detach",
        "merge", "refresh", "find", "found", "flush", "commit", "rollback", "statement", "row", "count"};
    private static final int[] WEIGHTS = {2, 12, 12, 8, 8, 14, 14, 7, 2, 6, 3, 4, 2, 7, 8, 3, 6, 10, 5};

    private static long seed = 1;

    public static void main(String[] args) {
        int[] errors = new int[9];
        for (int run = 0; run < RUNS; run++) {
            if (!run(run, errors)) {
                System.exit(1);
            }
        }
        for (int error = 1; error <= 8; error++) {
            Due.due(1, "some runs come to error -" + error, true, errors[error] > 100);
        }
        Due.end();
    }

    private static boolean run(int run, int[] errors) {
        SessionDesk x = new SessionDesk();
        Model m = new Model();
        // With few rows the same ones are deleted, inserted again and linked in rings far more often.
        int rows = run % 2 == 0 ? 2 + pick(15) : 1 + pick(4);
        List<String> told = new ArrayList<>();
        for (int n = 0; n < CALLS; n++) {
            int name = pickName();
            int[] a = arguments(name, rows);
            long got = ask(x, name, a);
            long want = m.ask(NAMES[name], a);
            told.add(NAMES[name] + Arrays.toString(a) + " " + got);
            long error = want < SessionDesk.BASE ? SessionDesk.BASE - want : -want;
            if (error > 0 && error <= 8 && !NAMES[name].equals("read")) {
                errors[(int) error]++;
            }
            if (got != want) {
                System.out.println("run " + run + ", call " + n + ": due is " + want);
                told.forEach(System.out::println);
                return false;
            }
        }
        return true;
    }

    private static int pick(int bound) {
        seed = seed * 6364136223846793005L + 1442695040888963407L;
        return (int) ((seed >>> 33) % bound);
    }

    private static int pickName() {
        int total = Arrays.stream(WEIGHTS).sum();
        int at = pick(total);
        int name = 0;
        while (at >= WEIGHTS[name]) {
            at -= WEIGHTS[name];
            name++;
        }
        return name;
    }

    /** Mostly right ones; one in forty is beside what is allowed. */
    private static int within(int low, int high) {
        if (pick(40) == 0) {
            int[] wrong = {low - 1, high + 1, Integer.MIN_VALUE, Integer.MAX_VALUE};
            return wrong[pick(4)];
        }
        return low + pick(high - low + 1);
    }

    private static int link(int rows) {
        return pick(3) == 0 ? -1 : within(0, rows - 1);
    }

    private static int[] arguments(int name, int rows) {
        int s = within(0, 2);
        int key = pick(60) == 0 ? within(0, 15) : pick(rows);
        switch (NAMES[name]) {
            case "mode": return new int[] {within(0, 2), pick(2)};
            case "make": return new int[] {s, key, pick(3), pick(3), link(rows)};
            case "read": return new int[] {s, key, within(0, 5)};
            case "write": {
                int what = within(0, 2);
                return new int[] {s, key, what, what == 2 ? link(rows) : pick(3)};
            }
            case "merge": return new int[] {s, within(0, 2), key};
            case "find": {
                int what = within(0, 2);
                return new int[] {s, what, what == 2 ? link(rows) : pick(3)};
            }
            case "found": return new int[] {within(0, 3)};
            case "flush": case "commit": case "rollback": return new int[] {s};
            case "statement": return new int[] {within(0, 4), within(0, 1)};
            case "row": return new int[] {key, within(0, 6)};
            case "count": return new int[] {within(0, 4)};
            default: return new int[] {s, key};
        }
    }

    private static long ask(SessionDesk x, int name, int[] a) {
        switch (NAMES[name]) {
            case "mode": return x.mode(a[0], a[1] == 1) ? 1 : 0;
            case "make": return x.make(a[0], a[1], a[2], a[3], a[4]);
            case "persist": return x.persist(a[0], a[1]);
            case "get": return x.get(a[0], a[1]);
            case "refer": return x.refer(a[0], a[1]);
            case "read": return x.read(a[0], a[1], a[2]);
            case "write": return x.write(a[0], a[1], a[2], a[3]);
            case "remove": return x.remove(a[0], a[1]);
            case "detach": return x.detach(a[0], a[1]);
            case "merge": return x.merge(a[0], a[1], a[2]);
            case "refresh": return x.refresh(a[0], a[1]);
            case "find": return x.find(a[0], a[1], a[2]);
            case "found": return x.found(a[0]);
            case "flush": return x.flush(a[0]);
            case "commit": return x.commit(a[0]);
            case "rollback": return x.rollback(a[0]);
            case "statement": return x.statement(a[0], a[1]);
            case "row": return x.row(a[0], a[1]);
            default: return x.count(a[0]);
        }
    }

    /** An error of a FLUSH, as the model tells it. */
    private static final class Failure extends RuntimeException {
        private static final long serialVersionUID = 1L;
        final int error;

        Failure(int error) {
            super(null, null, false, false);
            this.error = error;
        }
    }

    private enum Kind { NONE, TRANSIENT, NEW, PROXY, MANAGED, REMOVED }

    /** Ints, LINK and VERSION; never changed once made. */
    private record Row(int a, int b, int link, int version) {
        int cell(int what) {
            return new int[] {a, b, link, version}[what];
        }

        Row with(int what, int v) {
            return new Row(what == 0 ? v : a, what == 1 ? v : b, what == 2 ? v : link, what == 3 ? v : version);
        }

        boolean differs(Row other) {
            return a != other.a || b != other.b || link != other.link;
        }
    }

    private static final class Entity {
        Kind kind;
        Row now;
        Row snapshot;

        Entity(Kind kind, Row now, Row snapshot) {
            this.kind = kind;
            this.now = now;
            this.snapshot = snapshot;
        }

        boolean is(Kind... kinds) {
            return Arrays.asList(kinds).contains(kind);
        }

        boolean dirty() {
            return kind == Kind.MANAGED && now.differs(snapshot);
        }
    }

    private static final class Session {
        final TreeMap<Integer, Entity> entities = new TreeMap<>();
        /** Rows written and not committed; null for one that is not there any more. */
        final TreeMap<Integer, Row> written = new TreeMap<>();
        boolean broken;

        Entity at(int key) {
            return entities.getOrDefault(key, new Entity(Kind.NONE, null, null));
        }
    }

    private static final class Model {
        final Session[] sessions = {new Session(), new Session(), new Session()};
        final TreeMap<Integer, Row> store = new TreeMap<>();
        final Map<Integer, Row> cache = new HashMap<>();
        final boolean[] modes = new boolean[3];
        final int[] counts = new int[5];
        List<int[]> statements = new ArrayList<>();
        List<Integer> found = new ArrayList<>();

        long ask(String name, int[] a) {
            switch (name) {
                case "mode": return mode(a[0], a[1] == 1);
                case "found": return a[0] >= 0 && a[0] < found.size() ? found.get(a[0]) : -1;
                case "statement": return a[0] >= 0 && a[0] < statements.size() && (a[1] == 0 || a[1] == 1)
                    ? statements.get(a[0])[a[1]] : -1;
                case "row": return row(a[0], a[1]);
                case "count": return a[0] >= 0 && a[0] < 5 ? counts[a[0]] : -1;
                default: return askSession(name, a);
            }
        }

        private long mode(int what, boolean on) {
            if (what < 0 || what > 2) {
                return 0;
            }
            modes[what] = on;
            return 1;
        }

        private long row(int key, int what) {
            long no = SessionDesk.BASE - 1;
            if (key < 0 || key > 15) {
                return no;
            }
            switch (what) {
                case 0: case 1: case 2: case 3: return store.containsKey(key) ? store.get(key).cell(what) : no;
                case 4: return store.containsKey(key) ? 1 : 0;
                case 5: return locker(key);
                case 6: return cache.containsKey(key) ? 1 : 0;
                default: return no;
            }
        }

        private int locker(int key) {
            int by = -1;
            for (int s = 0; s < 3; s++) {
                if (sessions[s].written.containsKey(key)) {
                    by = s;
                }
            }
            return by;
        }

        private long askSession(String name, int[] a) {
            long base = name.equals("read") ? SessionDesk.BASE : 0;
            boolean keyed = !List.of("find", "flush", "commit", "rollback").contains(name);
            int key = !keyed ? 0 : name.equals("merge") ? a[2] : a[1];
            boolean wrongT = name.equals("merge") && (a[1] < 0 || a[1] > 2);
            if (a[0] < 0 || a[0] > 2 || key < 0 || key > 15 || wrongT) {
                return base - 1;
            }
            Session s = sessions[a[0]];
            if (s.broken && !name.equals("rollback")) {
                return base - 2;
            }
            switch (name) {
                case "make": return make(s, key, a[2], a[3], a[4]);
                case "persist": return persist(s, key);
                case "get": return get(s, key);
                case "refer": s.entities.putIfAbsent(key, new Entity(Kind.PROXY, null, null)); return 0;
                case "read": return read(s, key, a[2]);
                case "write": return write(s, key, a[2], a[3]);
                case "remove": return remove(s, key);
                case "detach": return s.entities.remove(key) == null ? -1 : 0;
                case "merge": return merge(s, sessions[a[1]], key);
                case "refresh": return refresh(s, key);
                case "find": return find(s, a[1], a[2]);
                case "flush": return flush(s);
                case "commit": return commit(s);
                default: s.entities.clear(); s.written.clear(); s.broken = false; return 0;
            }
        }

        private TreeMap<Integer, Row> sight(Session s) {
            TreeMap<Integer, Row> sight = new TreeMap<>(store);
            s.written.forEach((key, row) -> {
                if (row == null) {
                    sight.remove(key);
                } else {
                    sight.put(key, row);
                }
            });
            return sight;
        }

        private int make(Session s, int key, int a, int b, int link) {
            if (s.entities.containsKey(key) || link < -1 || link > 15) {
                return -1;
            }
            s.entities.put(key, new Entity(Kind.TRANSIENT, new Row(a, b, link, 0), null));
            return 0;
        }

        private int persist(Session s, int key) {
            Entity e = s.at(key);
            if (e.is(Kind.NONE)) {
                return -1;
            }
            if (e.is(Kind.REMOVED)) {
                e.kind = Kind.MANAGED;
            }
            if (e.is(Kind.TRANSIENT)) {
                e.kind = Kind.NEW;
                if (modes[0] && s.at(e.now.link()).is(Kind.TRANSIENT)) {
                    persist(s, e.now.link());
                }
            }
            return 0;
        }

        /** Loads one row; false if it was no HIT. */
        private boolean loadOne(Session s, int key) {
            if (cache.containsKey(key)) {
                counts[1]++;
                s.entities.put(key, new Entity(Kind.MANAGED, cache.get(key), cache.get(key)));
                return true;
            }
            fromStore(s, key);
            return false;
        }

        private boolean fromStore(Session s, int key) {
            Row row = sight(s).get(key);
            if (row == null) {
                return false;
            }
            s.entities.put(key, new Entity(Kind.MANAGED, row, row));
            if (locker(key) == -1) {
                cache.put(key, row);
            }
            return true;
        }

        private boolean loadAlone(Session s, int key) {
            if (!loadOne(s, key)) {
                counts[0]++;
            }
            return s.at(key).is(Kind.MANAGED);
        }

        private boolean touch(Session s, int key) {
            boolean allHits = loadOne(s, key);
            boolean loaded = s.at(key).is(Kind.MANAGED);
            if (loaded && modes[2]) {
                List<Integer> others = new ArrayList<>();
                s.entities.forEach((other, e) -> {
                    if (e.is(Kind.PROXY) && others.size() < 2) {
                        others.add(other);
                    }
                });
                for (int other : others) {
                    allHits &= loadOne(s, other);
                }
            }
            counts[0] += allHits ? 0 : 1;
            return loaded;
        }

        private int get(Session s, int key) {
            switch (s.at(key).kind) {
                case NONE: return loadAlone(s, key) ? 0 : -3;
                case PROXY: return touch(s, key) ? 0 : -3;
                case REMOVED: return -3;
                default: return 0;
            }
        }

        private long read(Session s, int key, int what) {
            if (what == 4) {
                return s.at(key).kind.ordinal();
            }
            if (what == 5) {
                return s.at(key).dirty() ? 1 : 0;
            }
            if (what < 0 || what > 5 || s.at(key).is(Kind.NONE)) {
                return SessionDesk.BASE - 1;
            }
            if (s.at(key).is(Kind.PROXY) && !touch(s, key)) {
                return SessionDesk.BASE - 3;
            }
            Entity e = s.at(key);
            if (what == 3) {
                return e.snapshot == null ? 0 : e.snapshot.version();
            }
            return e.now.cell(what);
        }

        private int write(Session s, int key, int what, int v) {
            boolean wrongLink = what == 2 && (v < -1 || v > 15);
            if (what < 0 || what > 2 || wrongLink || s.at(key).is(Kind.NONE, Kind.REMOVED)) {
                return -1;
            }
            if (s.at(key).is(Kind.PROXY) && !touch(s, key)) {
                return -3;
            }
            s.at(key).now = s.at(key).now.with(what, v);
            return 0;
        }

        private int remove(Session s, int key) {
            if (s.at(key).is(Kind.NONE, Kind.TRANSIENT)) {
                return -1;
            }
            if (s.at(key).is(Kind.PROXY) && !touch(s, key)) {
                return -3;
            }
            removeOne(s, key);
            return 0;
        }

        private void removeOne(Session s, int key) {
            Entity e = s.at(key);
            if (e.is(Kind.NEW)) {
                e.kind = Kind.TRANSIENT;
            }
            if (!e.is(Kind.MANAGED)) {
                return;
            }
            e.kind = Kind.REMOVED;
            if (!modes[1]) {
                return;
            }
            counts[0]++;
            sight(s).forEach((other, row) -> {
                if (row.link() == key && s.at(other).is(Kind.NONE, Kind.PROXY)) {
                    s.entities.put(other, new Entity(Kind.MANAGED, row, row));
                }
            });
            for (int other : new TreeSet<>(s.entities.keySet())) {
                if (s.at(other).is(Kind.MANAGED, Kind.NEW) && s.at(other).now.link() == key) {
                    removeOne(s, other);
                }
            }
        }

        private int merge(Session s, Session t, int key) {
            Entity from = t.at(key);
            if (s == t || from.is(Kind.NONE, Kind.PROXY, Kind.REMOVED) || s.at(key).is(Kind.REMOVED)) {
                return -1;
            }
            if (s.at(key).is(Kind.NONE, Kind.PROXY) && !loadAlone(s, key)) {
                if (from.is(Kind.MANAGED)) {
                    return -4;
                }
                s.entities.put(key, new Entity(Kind.NEW, from.now, null));
                return 0;
            }
            Entity to = s.at(key);
            if (from.is(Kind.MANAGED) && to.is(Kind.MANAGED) && from.snapshot.version() != to.snapshot.version()) {
                return -4;
            }
            to.now = from.now;
            return 0;
        }

        private int refresh(Session s, int key) {
            if (!s.at(key).is(Kind.MANAGED, Kind.PROXY)) {
                return -1;
            }
            counts[0]++;
            return fromStore(s, key) ? 0 : -3;
        }

        private int find(Session s, int what, int v) {
            if (what < 0 || what > 2) {
                return -1;
            }
            int error = flush(s);
            if (error != 0) {
                return error;
            }
            counts[0]++;
            found = new ArrayList<>();
            sight(s).forEach((key, row) -> {
                if (row.cell(what) == v) {
                    found.add(key);
                    if (s.at(key).is(Kind.NONE, Kind.PROXY)) {
                        s.entities.put(key, new Entity(Kind.MANAGED, row, row));
                    }
                }
            });
            return found.size();
        }

        private int commit(Session s) {
            int error = flush(s);
            if (error == 0) {
                s.written.forEach((key, row) -> {
                    if (row == null) {
                        store.remove(key);
                    } else {
                        store.put(key, row);
                        cache.put(key, row);
                    }
                });
                s.written.clear();
            }
            return error;
        }

        private int flush(Session s) {
            statements = new ArrayList<>();
            try {
                save(s);
                Map<Integer, Row> done = new HashMap<>();
                List<Integer> cut = insert(s, done);
                update(s, cut, done);
                delete(s);
                TreeMap<Integer, Row> sight = sight(s);
                for (Row row : sight.values()) {
                    if (row.link() >= 0 && !sight.containsKey(row.link())) {
                        throw new Failure(-8);
                    }
                }
                s.entities.values().removeIf(e -> e.is(Kind.REMOVED));
                done.forEach((key, row) -> s.entities.put(key, new Entity(Kind.MANAGED, row, row)));
                return 0;
            } catch (Failure f) {
                s.written.clear();
                s.broken = true;
                return f.error;
            }
        }

        private void save(Session s) {
            boolean more = true;
            while (more) {
                more = false;
                for (Entity e : s.entities.values()) {
                    if ((e.is(Kind.NEW) || e.dirty()) && s.at(e.now.link()).is(Kind.TRANSIENT)) {
                        if (!modes[0]) {
                            throw new Failure(-7);
                        }
                        s.at(e.now.link()).kind = Kind.NEW;
                        more = true;
                    }
                }
            }
        }

        private List<Integer> insert(Session s, Map<Integer, Row> done) {
            TreeSet<Integer> left = new TreeSet<>();
            s.entities.forEach((key, e) -> {
                if (e.is(Kind.NEW)) {
                    left.add(key);
                }
            });
            List<Integer> cut = new ArrayList<>();
            while (!left.isEmpty()) {
                Integer key = left.stream().filter(k -> s.at(k).now.link() == k || !left.contains(s.at(k).now.link()))
                    .findFirst().orElse(null);
                Row row = null;
                if (key == null) {
                    key = left.first();
                    cut.add(key);
                    row = s.at(key).now.with(2, -1).with(3, 0);
                } else {
                    row = s.at(key).now.with(3, 0);
                }
                left.remove(key);
                state(s, 0, key, row, 0);
                done.put(key, row);
            }
            return cut;
        }

        private void update(Session s, List<Integer> cut, Map<Integer, Row> done) {
            List<Integer> all = new ArrayList<>();
            s.entities.forEach((key, e) -> {
                if (e.dirty()) {
                    all.add(key);
                }
            });
            all.addAll(cut);
            for (int key : all) {
                Entity e = s.at(key);
                int version = e.is(Kind.NEW) ? 0 : e.snapshot.version();
                Row row = e.now.with(3, version + 1);
                state(s, 1, key, row, version);
                done.put(key, row);
            }
        }

        private void delete(Session s) {
            TreeSet<Integer> left = new TreeSet<>();
            s.entities.forEach((key, e) -> {
                if (e.is(Kind.REMOVED)) {
                    left.add(key);
                }
            });
            while (!left.isEmpty()) {
                int key = left.stream().filter(k -> left.stream().noneMatch(
                    other -> !other.equals(k) && s.at(other).snapshot.link() == k)).findFirst().orElse(left.first());
                left.remove(key);
                state(s, 2, key, null, s.at(key).snapshot.version());
            }
        }

        /** One STATEMENT. */
        private void state(Session s, int kind, int key, Row row, int version) {
            if (locker(key) != -1 && sessions[locker(key)] != s) {
                throw new Failure(-6);
            }
            Row was = sight(s).get(key);
            if (kind == 0 && was != null) {
                throw new Failure(-5);
            }
            if (kind != 0 && (was == null || was.version() != version)) {
                throw new Failure(-4);
            }
            s.written.put(key, row);
            cache.remove(key);
            statements.add(new int[] {kind, key});
            counts[2 + kind]++;
        }
    }
}
