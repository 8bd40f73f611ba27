import java.util.ArrayList;
import java.util.Arrays;
import java.util.List;
import java.util.Map;

/**
 * A sentence of the document with a run of calls that holds it to it.
 *
 * A line of a run is a call and, behind "->", the answer that is due (OK if it tells none):
 *   make 0 4 7 8 -1            mode 0 on             get 1 4 -> LOST
 * Errors are told by their names, also where BASE is added to them; MIN and MAX are the least and the greatest int.
 * A line with "!" before it is a refused call: it must leave the object as if it had not been made. So the run up to it
 * is made on two new objects, with it on one of them alone, and all that can be seen of both is compared.
 *
 * Lines that stand for several calls:
 *   stored 4 7 8 -1            session 2 makes, persists and commits the row, and rolls back: it has no entities then
 *   uncached 4                 session 2, which has no entities, writes the row and rolls back: it is not in the cache then
 *   entity 0 4 -> 7 8 -1 0     ints, LINK and VERSION
 *   row 4 -> 7 8 -1 0          a committed row, or none
 *   states 0 -> 4M 5P          the entities of a session: T, N, P, M, R; or none
 *   statements -> I4 U5 D6     of the latest FLUSH, or none
 *   counts -> 1 0 2 0 0        READs, HITs, INSERTs, UPDATEs, DELETEs
 *   cache -> 4 5               the rows that it has, or none
 *   locks -> 4:0 5:2           the rows that are LOCKED, and by whom; or none
 *   found -> 4 5               all that the latest find found, or none
 */
final class Script {
    private static final int MOST_CALLS = 512;
    private static final List<String> ERRORS =
        List.of("OK", "NO", "BROKEN", "LOST", "STALE", "DUPLICATE", "BUSY", "UNSAVED", "FOREIGN");
    private static final List<String> LONGS = List.of("read", "row");
    private static final Map<String, Integer> NUMBERS = Map.of("MIN", Integer.MIN_VALUE, "MAX", Integer.MAX_VALUE);

    private final SessionDesk desk = new SessionDesk();
    private int calls = 0;

    private Script() { }

    /** Where the sentence stands, the sentence, and its run. */
    static void sentence(String where, String sentence, String run) {
        List<String> lines = run.lines().map(String::strip).filter(line -> !line.isEmpty()).toList();
        String told = where + ", '" + sentence + "': ";
        Script script = new Script();
        for (int n = 0; n < lines.size(); n++) {
            String line = lines.get(n);
            if (line.startsWith("!")) {
                leavesAllUnchanged(told, lines.subList(0, n), line.substring(1).strip());
            } else {
                script.check(told + "line " + (n + 1) + ": ", line);
            }
        }
    }

    /** The same run with each of some values in the place of a name, such as $s. */
    static void sentenceForEach(String where, String sentence, String name, List<String> values, String run) {
        for (String value : values) {
            sentence(where, sentence, run.replace(name, value));
        }
    }

    private static void leavesAllUnchanged(String told, List<String> before, String line) {
        Script with = new Script();
        Script without = new Script();
        for (String earlier : before) {
            if (!earlier.startsWith("!")) {
                with.answer(earlier.split(" *-> *")[0]);
                without.answer(earlier.split(" *-> *")[0]);
            }
        }
        with.check(told, line);
        Due.text(told + line + ": what is seen afterwards", without.picture(), with.picture());
    }

    private void check(String told, String line) {
        String[] parts = line.split(" *-> *");
        Due.text(told + parts[0], parts.length > 1 ? parts[1] : "OK", answer(parts[0]));
    }

    private String answer(String call) {
        String[] words = call.split(" +");
        String name = words[0];
        if (name.equals("mode")) {
            count();
            return desk.mode(number(words[1]), words[2].equals("on")) ? "OK" : "false";
        }
        int[] a = Arrays.stream(words).skip(1).mapToInt(Script::number).toArray();
        switch (name) {
            case "stored": return stored(a);
            case "uncached": return uncached(a[0]);
            case "entity": return told("read", new int[] {a[0], a[1], 0}, 2, 3);
            case "states": return states(a[0]);
            case "statements": return statements();
            case "counts": return told("count", new int[] {0}, 0, 4);
            case "cache": return rowsWith(6, 0, false);
            case "locks": return rowsWith(5, -1, true);
            default: break;
        }
        if (name.equals("row") && a.length == 1) {
            return call("row", a[0], 4) == 0 ? "none" : told("row", new int[] {a[0], 0}, 1, 3);
        }
        if (name.equals("found") && a.length == 0) {
            return found();
        }
        return word(name, call(name, a));
    }

    private static int number(String word) {
        return NUMBERS.containsKey(word) ? NUMBERS.get(word) : Integer.parseInt(word);
    }

    /** A number by its name, if the call can mean an error by it. */
    private static String word(String name, long answer) {
        boolean isLong = LONGS.contains(name);
        long error = isLong ? SessionDesk.BASE - answer : -answer;
        boolean counts = List.of("find", "found", "statement", "count").contains(name);
        if (error > 0 && error < ERRORS.size() || error == 0 && !isLong && !counts) {
            return ERRORS.get((int) error);
        }
        return answer == Integer.MIN_VALUE ? "MIN" : answer == Integer.MAX_VALUE ? "MAX" : "" + answer;
    }

    private void count() {
        calls++;
        if (calls > MOST_CALLS) {
            throw new IllegalStateException("a run has more calls than the document promises answers for");
        }
    }

    private long call(String name, int... a) {
        count();
        switch (name) {
            case "make": return desk.make(a[0], a[1], a[2], a[3], a[4]);
            case "persist": return desk.persist(a[0], a[1]);
            case "get": return desk.get(a[0], a[1]);
            case "refer": return desk.refer(a[0], a[1]);
            case "read": return desk.read(a[0], a[1], a[2]);
            case "write": return desk.write(a[0], a[1], a[2], a[3]);
            case "remove": return desk.remove(a[0], a[1]);
            case "detach": return desk.detach(a[0], a[1]);
            case "merge": return desk.merge(a[0], a[1], a[2]);
            case "refresh": return desk.refresh(a[0], a[1]);
            case "find": return desk.find(a[0], a[1], a[2]);
            case "found": return desk.found(a[0]);
            case "flush": return desk.flush(a[0]);
            case "commit": return desk.commit(a[0]);
            case "rollback": return desk.rollback(a[0]);
            case "statement": return desk.statement(a[0], a[1]);
            case "row": return desk.row(a[0], a[1]);
            case "count": return desk.count(a[0]);
            default: throw new IllegalArgumentException(name);
        }
    }

    /** The answers of one call while its argument at a place goes up to a last one. */
    private String told(String name, int[] a, int place, int last) {
        List<String> told = new ArrayList<>();
        for (; a[place] <= last; a[place]++) {
            told.add(word(name, call(name, a)));
        }
        return String.join(" ", told);
    }

    private String stored(int[] a) {
        long made = call("make", 2, a[0], a[1], a[2], a[3]);
        long persisted = call("persist", 2, a[0]);
        long committed = call("commit", 2);
        long ended = call("rollback", 2);
        return made == 0 && persisted == 0 && committed == 0 && ended == 0 ? "OK" : "it can't be stored";
    }

    private String uncached(int key) {
        long a = call("row", key, 0);
        long n = call("find", 2, 0, (int) a);
        long written = call("write", 2, key, 0, (int) a ^ 1);
        long flushed = call("flush", 2);
        long ended = call("rollback", 2);
        boolean cached = call("row", key, 6) == 1;
        return n > 0 && written == 0 && flushed == 0 && ended == 0 && !cached ? "OK" : "it is still in the cache";
    }

    private String states(int s) {
        List<String> states = new ArrayList<>();
        for (int key = 0; key < 16; key++) {
            long state = call("read", s, key, 4);
            if (state < 0) {
                return word("read", state);
            }
            if (state > 0) {
                states.add(key + "" + " TNPMR".charAt((int) state));
            }
        }
        return orNone(states);
    }

    private String statements() {
        List<String> statements = new ArrayList<>();
        for (long kind = call("statement", 0, 0); kind >= 0; kind = call("statement", statements.size(), 0)) {
            statements.add("IUD".charAt((int) kind) + "" + call("statement", statements.size(), 1));
        }
        return orNone(statements);
    }

    private String rowsWith(int what, int not, boolean tellsWhat) {
        List<String> rows = new ArrayList<>();
        for (int key = 0; key < 16; key++) {
            long answer = call("row", key, what);
            if (answer != not) {
                rows.add(key + (tellsWhat ? ":" + answer : ""));
            }
        }
        return orNone(rows);
    }

    private String found() {
        List<String> found = new ArrayList<>();
        for (long key = call("found", 0); key >= 0; key = call("found", found.size())) {
            found.add("" + key);
        }
        return orNone(found);
    }

    private static String orNone(List<String> words) {
        return words.isEmpty() ? "none" : String.join(" ", words);
    }

    /** All that can be seen, and what the commits of all sessions then do; it is the last that is asked of an object. */
    private String picture() {
        StringBuilder all = new StringBuilder(answer("counts") + ", statements " + statements() + ", found " + found());
        all.append(", cache ").append(answer("cache")).append(", locks ").append(answer("locks"));
        for (int s = 0; s < 3; s++) {
            String states = states(s);
            all.append(", session ").append(s).append(": ").append(states);
            for (String state : states.split(" ")) {
                if (state.matches("\\d+[TNMR]")) {
                    String key = state.substring(0, state.length() - 1);
                    all.append(" (").append(answer("entity " + s + " " + key)).append(")");
                    all.append(call("read", s, number(key), 5));
                }
            }
        }
        all.append(", rows").append(rows());
        for (int s = 0; s < 3; s++) {
            all.append(", commit ").append(call("commit", s)).append(" ").append(statements());
        }
        return all.append(", rows then").append(rows()).toString();
    }

    private String rows() {
        StringBuilder rows = new StringBuilder();
        for (int key = 0; key < 16; key++) {
            rows.append(" (").append(answer("row " + key)).append(")");
        }
        return rows.toString();
    }
}
