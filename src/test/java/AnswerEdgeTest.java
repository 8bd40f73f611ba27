import java.util.List;

/** The boundary cases of promises 14, 18, 19 and 20, with what 21 says of row, and the 512 calls of an object. */
public final class AnswerEdgeTest {
    private static final List<String> EXTREMES = List.of("MIN", "MAX");

    public static void main(String[] args) {
        found();
        statement();
        statementOfTheLatest();
        row();
        rowRefused();
        count();
        calls();
        Due.end();
    }

    private static String all(String line) {
        StringBuilder run = new StringBuilder();
        for (int key = 0; key < 16; key++) {
            run.append(line.replace("$k", "" + key)).append("\n");
        }
        return run.toString();
    }

    private static void found() {
        Script.sentence("Promise 14", "NO if there is none: no find was made", """
            found 0 -> NO
            found -1 -> NO
            found 15 -> NO
            """);
        String three = """
            stored 15 7 0 -1
            stored 0 7 0 -1
            stored 4 7 0 -1
            find 0 0 7 -> 3
            """;
        Script.sentence("Promise 14", "The k-th row (0 first, by numbers)", three + """
            found 0 -> 0
            found 1 -> 4
            found 2 -> 15
            """);
        Script.sentence("Promise 14", "NO if there is none: k just too small and just too large", three + """
            ! found -1 -> NO
            ! found 3 -> NO
            ! found 16 -> NO
            """);
        Script.sentenceForEach("Promise 14", "NO if there is none", "$", EXTREMES, three + "! found $ -> NO");
        Script.sentence("Promise 14", "that the latest find [..] found: nothing", three + """
            find 1 0 8 -> 0
            found 0 -> NO
            """);
        Script.sentence("Promise 14", "that the latest find [..] found: fewer than the one before", three + """
            find 1 2 -1 -> 3
            get 1 15
            write 1 15 1 1
            find 1 1 1 -> 1
            found 0 -> 15
            found 1 -> NO
            """);
        Script.sentence("Promise 14", "the latest find that was not an error", three + """
            find 0 3 7 -> NO
            find 3 0 7 -> NO
            found -> 0 4 15
            make 1 4 0 0 -1
            persist 1 4
            find 1 0 0 -> DUPLICATE
            found -> 0 4 15
            find 1 0 0 -> BROKEN
            found -> 0 4 15
            """);
        Script.sentence("Promise 14", "that the latest find [..] found: it stays as the rows go", three + """
            get 0 4
            remove 0 4
            commit 0
            rollback 0
            found -> 0 4 15
            """);
        Script.sentence("Promise 14", "The k-th row: all sixteen", all("make 0 $k 5 0 -1\npersist 0 $k") + "find 0 0 5 -> 16\n"
            + all("found $k -> $k") + "found 16 -> NO\nfound -1 -> NO");
    }

    private static void statement() {
        Script.sentence("Promise 18", "NO if there is none: no FLUSH was made", """
            statement 0 0 -> NO
            statement 0 1 -> NO
            statement -1 0 -> NO
            """);
        String three = """
            stored 4 7 8 -1
            stored 15 7 8 -1
            get 0 4
            write 0 4 0 1
            get 0 15
            remove 0 15
            make 0 0 1 1 -1
            persist 0 0
            flush 0
            """;
        Script.sentence("Promise 18", "what 0: 0 INSERT, 1 UPDATE, 2 DELETE; 1: its row", three + """
            statement 0 0 -> 0
            statement 0 1 -> 0
            statement 1 0 -> 1
            statement 1 1 -> 4
            statement 2 0 -> 2
            statement 2 1 -> 15
            """);
        Script.sentence("Promise 18", "NO if there is none: k just too small and just too large", three + """
            ! statement -1 0 -> NO
            ! statement -1 1 -> NO
            ! statement 3 0 -> NO
            ! statement 3 1 -> NO
            ! statement 32 0 -> NO
            """);
        Script.sentence("Promise 18", "or for others: what just too small and just too large", three + """
            ! statement 0 -1 -> NO
            ! statement 0 2 -> NO
            ! statement 2 2 -> NO
            ! statement 3 2 -> NO
            """);
        Script.sentenceForEach("Promise 18", "NO if there is none, or for others", "$", EXTREMES, three + """
            ! statement $ 0 -> NO
            ! statement $ 1 -> NO
            ! statement 0 $ -> NO
            ! statement $ $ -> NO
            """);
        StringBuilder most = new StringBuilder();
        StringBuilder want = new StringBuilder("statements ->");
        for (int key = 0; key < 16; key++) {
            most.append("make 0 $ 0 0 ".replace("$", "" + key)).append(key == 15 ? 14 : 15).append("\n");
            most.append("persist 0 ").append(key).append("\n");
            want.append(" I").append(key);
        }
        for (int key = 0; key < 15; key++) {
            want.append(" U").append(key);
        }
        Script.sentence("Promise 18", "the k-th STATEMENT: as many as a FLUSH can have", most + "flush 0\n" + want + """

            statement 30 0 -> 1
            statement 30 1 -> 14
            statement 31 0 -> NO
            statement 31 1 -> NO
            counts -> 0 0 16 15 0
            """);
    }

    private static void statementOfTheLatest() {
        String one = """
            stored 4 7 8 -1
            statements -> I4
            """;
        Script.sentence("Promise 18", "in the latest FLUSH of any session: one with nothing to do", one + """
            flush 1
            statements -> none
            """);
        Script.sentence("Promise 18", "in the latest FLUSH of any session: by find and commit, too", one + """
            get 1 4
            write 1 4 0 1
            find 1 0 0 -> 0
            statements -> U4
            remove 1 4
            commit 1
            statements -> D4
            find 0 0 0 -> 0
            statements -> none
            """);
        Script.sentence("Promise 18", "the latest FLUSH: a call that is refused before makes none", one + """
            flush 3 -> NO
            commit -1 -> NO
            find 0 3 0 -> NO
            rollback 0
            statements -> I4
            make 0 4 1 1 -1
            persist 0 4
            flush 0 -> DUPLICATE
            statements -> none
            get 1 4
            write 1 4 0 1
            commit 1
            flush 0 -> BROKEN
            commit 0 -> BROKEN
            find 0 0 0 -> BROKEN
            statements -> U4
            """);
        Script.sentence("Promise 18", "(also if it failed later)", one + """
            get 0 4
            write 0 4 2 15
            make 0 0 1 1 -1
            persist 0 0
            flush 0 -> FOREIGN
            statements -> I0 U4
            rollback 0
            statements -> I0 U4
            make 1 4 1 1 -1
            persist 1 4
            make 1 3 1 1 -1
            persist 1 3
            make 1 5 1 1 -1
            persist 1 5
            flush 1 -> DUPLICATE
            statements -> I3
            """);
        Script.sentence("Promise 18", "done in the latest FLUSH: none if it is UNSAVED", one + """
            make 0 0 1 1 15
            persist 0 0
            make 0 15 1 1 -1
            flush 0 -> UNSAVED
            statements -> none
            """);
    }

    private static void row() {
        Script.sentence("Promise 19", "Of a COMMITTED row what 0..3: ints, LINK, VERSION", """
            stored 15 MIN MAX 15
            get 0 15
            write 0 15 0 -1
            commit 0
            row 15 0 -> -1
            row 15 1 -> MAX
            row 15 2 -> 15
            row 15 3 -> 1
            """);
        Script.sentenceForEach("Promise 19", "(NO + BASE if it is not there)", "$", List.of("0", "1", "2", "3"), """
            make 1 5 1 1 -1
            persist 1 5
            flush 1
            ! row 0 $ -> NO
            ! row 5 $ -> NO
            ! row 15 $ -> NO
            commit 1
            remove 1 5
            commit 1
            ! row 5 $ -> NO
            """);
        Script.sentence("Promise 19", "4: 1 if it is there, else 0", """
            row 0 4 -> 0
            row 15 4 -> 0
            make 0 15 1 1 -1
            persist 0 15
            flush 0
            row 15 4 -> 0
            commit 0
            row 15 4 -> 1
            remove 0 15
            flush 0
            row 15 4 -> 1
            commit 0
            row 15 4 -> 0
            """);
        Script.sentence("Promise 19", "5: the session by which it is LOCKED, -1 if there is none", """
            row 0 5 -> -1
            make 0 0 1 1 -1
            persist 0 0
            flush 0
            make 1 7 1 1 -1
            persist 1 7
            flush 1
            make 2 15 1 1 -1
            persist 2 15
            flush 2
            row 0 5 -> 0
            row 7 5 -> 1
            row 15 5 -> 2
            row 8 5 -> -1
            """);
        Script.sentence("Promise 19", "6: 1 if the CACHE has it, else 0", """
            row 0 6 -> 0
            row 15 6 -> 0
            stored 15 1 1 -1
            row 15 6 -> 1
            row 0 6 -> 0
            uncached 15
            row 15 6 -> 0
            """);
    }

    private static void rowRefused() {
        String rows = """
            stored 0 1 1 -1
            stored 15 1 1 -1
            """;
        for (String key : List.of("0", "4", "15")) {
            Script.sentenceForEach("Promise 19", "NO + BASE for others", "$", List.of("-1", "7", "MIN", "MAX"),
                rows + "! row " + key + " $ -> NO");
        }
        for (String key : List.of("-1", "16", "MIN", "MAX")) {
            Script.sentenceForEach("Promise 21", "row: NO + BASE for every what if key is not 0..15", "$",
                List.of("-1", "0", "1", "2", "3", "4", "5", "6", "7", "MIN", "MAX"), rows + "! row " + key + " $ -> NO");
        }
        Due.due(21, "row(16, 4): NO + BASE", -10000000001L, new SessionDesk().row(16, 4));
        Due.due(19, "row(0, 0): NO + BASE", -10000000001L, new SessionDesk().row(0, 0));
        Due.due(7, "read(0, 0, 0): NO + BASE", -10000000001L, new SessionDesk().read(0, 0, 0));
    }

    private static void count() {
        Script.sentenceForEach("Promise 20", "NO for others", "$", List.of("-1", "5", "MIN", "MAX"), """
            stored 4 1 1 -1
            ! count $ -> NO
            """);
        Script.sentence("Promise 20", "So far 0: READs, 1: HITs, 2: INSERTs, 3: UPDATEs, 4: DELETEs", """
            counts -> 0 0 0 0 0
            stored 4 1 1 -1
            counts -> 0 0 1 0 0
            get 0 4
            counts -> 0 1 1 0 0
            get 0 5 -> LOST
            counts -> 1 1 1 0 0
            write 0 4 0 2
            flush 0
            counts -> 1 1 1 1 0
            remove 0 4
            flush 0
            counts -> 1 1 1 1 1
            rollback 0
            counts -> 1 1 1 1 1
            """);
        Script.sentence("Promise 20", "(those done in FLUSHES that failed, too)", """
            stored 4 1 1 -1
            stored 5 1 1 4
            get 0 4
            remove 0 4
            make 0 6 1 1 -1
            persist 0 6
            make 0 7 1 1 8
            persist 0 7
            make 0 8 1 1 7
            persist 0 8
            flush 0 -> FOREIGN
            counts -> 0 1 5 1 1
            rollback 0
            counts -> 0 1 5 1 1
            """);
        Script.sentence("Promise 20", "those done: not the one that failed", """
            stored 4 1 1 -1
            make 0 4 1 1 -1
            persist 0 4
            flush 0 -> DUPLICATE
            get 1 4
            get 2 4
            write 1 4 0 2
            commit 1
            remove 2 4
            flush 2 -> STALE
            counts -> 0 2 1 1 0
            """);
    }

    private static void calls() {
        Script.sentence("What it is", "An object is used for at most 512 calls: the last counts all READs", "get 0 4 -> LOST\n".repeat(511)
            + "count 0 -> 511");
        Script.sentence("What it is", "An object is used for at most 512 calls: the last sees all UPDATEs", "make 0 4 0 0 -1\npersist 0 4\ncommit 0\n"
            + "write 0 4 0 1\nflush 0\nwrite 0 4 0 2\nflush 0\n".repeat(127) + "row 4 3 -> 0");
        Script.sentence("What it is", "An object is used for at most 512 calls: and HITs", "stored 4 1 1 -1\n"
            + "get 0 4\ndetach 0 4\n".repeat(253) + "count 1 -> 253\nfound 0 -> NO");
        Script.sentence("What it is", "An object is used for at most 512 calls: and commits", "stored 4 0 0 -1\nget 0 4\n"
            + "write 0 4 1 MIN\ncommit 0\nwrite 0 4 1 MAX\ncommit 0\n".repeat(126) + "row 4 3 -> 252\nrow 4 1 -> MAX\nread 0 4 3 -> 252");
    }
}
