import java.util.List;

/** The boundary cases of promises 1 to 8 and 10, and who is refused first. Each sentence has its own runs. */
public final class CallEdgeTest {
    /** Just too small and just too large, and the least and the greatest ints. */
    private static final List<String> NO_SESSIONS = List.of("-1", "3", "MIN", "MAX");
    private static final List<String> NO_ROWS = List.of("-1", "16", "MIN", "MAX");
    private static final List<String> NO_LINKS = List.of("-2", "16", "MIN", "MAX");
    private static final List<String> LINKS = List.of("-1", "0", "4", "15");

    /** Rows 4, 5, 6 and 7; session 0 has an entity of every kind, session 1 has written. */
    private static final String SCENE = """
        stored 4 7 8 -1
        stored 5 7 8 -1
        stored 6 7 8 -1
        stored 7 9 9 -1
        find 1 0 9 -> 1
        write 1 7 0 1
        flush 1
        make 0 1 1 2 3
        make 0 2 3 4 5
        persist 0 2
        refer 0 4
        get 0 5
        write 0 5 0 1
        get 0 6
        remove 0 6
        states 0 -> 1T 2N 4P 5M 6R
        states 1 -> 7M
        """;

    /** Every call for a session and a row, as SCENE's session 0 could make it. */
    private static final List<String> ROW_CALLS = List.of("make $s $k 1 1 -1", "persist $s $k", "get $s $k", "refer $s $k",
        "read $s $k 0", "read $s $k 3", "read $s $k 4", "read $s $k 5", "read $s $k 6", "write $s $k 0 1", "write $s $k 2 16",
        "write $s $k 3 1", "remove $s $k", "detach $s $k", "merge $s 1 $k", "merge $s $s $k", "refresh $s $k",
        "make $s $k 1 1 16");
    private static final List<String> SESSION_CALLS = List.of("find $s 0 7", "find $s 3 7", "flush $s", "commit $s");

    public static void main(String[] args) {
        newObject();
        noSuchSession();
        noSuchRow();
        broken();
        noBeforeBroken();
        brokenBeforeTheRest();
        mode();
        make();
        persist();
        persistUp();
        get();
        refer();
        read();
        readTouches();
        write();
        writeTouches();
        detach();
        Due.end();
    }

    private static void newObject() {
        Script.sentence("Promise 1", "No rows, no entities, an empty cache", """
            cache -> none
            locks -> none
            states 0 -> none
            states 1 -> none
            states 2 -> none
            counts -> 0 0 0 0 0
            statements -> none
            found -> none
            row 0 -> none
            row 15 -> none
            """);
        Script.sentence("Promise 1", "UP [..] off", """
            make 0 4 1 1 5
            make 0 5 1 1 -1
            persist 0 4
            states 0 -> 4N 5T
            flush 0 -> UNSAVED
            """);
        Script.sentence("Promise 1", "DOWN [..] off", """
            stored 4 1 1 -1
            stored 5 1 1 4
            get 0 4
            remove 0 4
            states 0 -> 4R
            counts -> 0 1 2 0 0
            """);
        Script.sentence("Promise 1", "BATCH [..] off", """
            stored 4 1 1 -1
            stored 5 1 1 4
            refer 0 4
            refer 0 5
            get 0 5
            states 0 -> 4P 5M
            """);
    }

    private static void noSuchSession() {
        for (String s : NO_SESSIONS) {
            for (String call : ROW_CALLS) {
                Script.sentence("Promise 1", "answer NO if there is no such session",
                    SCENE + "! " + call.replace("$s", s).replace("$k", "5") + " -> NO");
            }
            for (String call : SESSION_CALLS) {
                Script.sentence("Promise 1", "answer NO if there is no such session",
                    SCENE + "! " + call.replace("$s", s) + " -> NO");
            }
            Script.sentence("Promise 1", "answer NO if there is no such session", SCENE + "! rollback " + s + " -> NO");
            Script.sentence("Promise 1", "(or t", SCENE + "! merge 0 " + s + " 5 -> NO");
            Script.sentence("Promise 1", "(or t", SCENE + "! merge " + s + " 0 5 -> NO");
        }
        Script.sentenceForEach("Promise 1", "no such session: the least and the greatest are such", "$s", List.of("0", "2"), """
            make $s 4 1 1 -1
            persist $s 4
            flush $s
            find $s 0 1 -> 1
            commit $s
            rollback $s
            row 4 -> 1 1 -1 0
            """);
    }

    private static void noSuchRow() {
        for (String key : NO_ROWS) {
            for (String call : ROW_CALLS) {
                Script.sentence("Promise 1", "or row key)", SCENE + "! " + call.replace("$s", "0").replace("$k", key) + " -> NO");
                Script.sentence("Promise 1", "or row key): of the last session",
                    SCENE + "! " + call.replace("$s", "2").replace("$k", key) + " -> NO");
            }
        }
        Script.sentenceForEach("Promise 1", "or row key): the least and the greatest are such", "$k", List.of("0", "15"), """
            refer 0 $k
            get 0 $k -> LOST
            detach 0 $k
            make 0 $k 1 1 -1
            persist 0 $k
            commit 0
            write 0 $k 0 2
            read 0 $k 0 -> 2
            merge 1 0 $k
            entity 1 $k -> 2 1 -1 0
            refresh 0 $k
            read 0 $k 0 -> 1
            remove 0 $k
            commit 0
            row $k -> none
            """);
    }

    /** SCENE, with session 0 BROKEN by an INSERT of a row that session 1 has LOCKED. */
    private static final String BROKEN_SCENE = SCENE + """
        make 0 7 0 0 -1
        write 0 2 2 -1
        persist 0 7
        flush 0 -> BUSY
        """;

    private static void broken() {
        for (String call : ROW_CALLS) {
            for (String key : List.of("1", "2", "4", "5", "6", "7", "9")) {
                Script.sentence("Promise 1", "then BROKEN if s is",
                    BROKEN_SCENE + "! " + call.replace("$s", "0").replace("$k", key) + " -> BROKEN");
            }
        }
        for (String call : SESSION_CALLS) {
            Script.sentence("Promise 1", "then BROKEN if s is", BROKEN_SCENE + "! " + call.replace("$s", "0") + " -> BROKEN");
        }
        Script.sentence("Promise 1", "then BROKEN if s is: its entities stay as they were, as merge shows", BROKEN_SCENE + """
            write 0 5 0 99 -> BROKEN
            detach 0 2 -> BROKEN
            remove 0 5 -> BROKEN
            persist 0 6 -> BROKEN
            get 0 4 -> BROKEN
            merge 1 0 5
            entity 1 5 -> 1 8 -1 0
            merge 1 0 2
            entity 1 2 -> 3 4 -1 0
            merge 1 0 6 -> NO
            merge 1 0 4 -> NO
            merge 1 0 1
            entity 1 1 -> 1 2 3 0
            """);
        Script.sentence("Promise 1", "(but for rollback)", BROKEN_SCENE + """
            rollback 0
            states 0 -> none
            get 0 5
            entity 0 5 -> 7 8 -1 0
            flush 0
            """);
        Script.sentence("Promise 1", "BROKEN if s is: t may be, and no other session is", BROKEN_SCENE + """
            merge 2 0 5
            states 2 -> 5M
            get 1 5
            commit 1
            """);
        Script.sentence("Promise 1", "Calls for a session: others answer as ever", BROKEN_SCENE + """
            mode 0 on
            count 2 -> 5
            found 0 -> 7
            row 4 -> 7 8 -1 0
            statements -> I2
            """);
    }

    private static void noBeforeBroken() {
        for (String key : NO_ROWS) {
            for (String call : ROW_CALLS) {
                Script.sentence("Promise 1", "NO if there is no such session (or t, or row key), then BROKEN: no such row",
                    BROKEN_SCENE + "! " + call.replace("$s", "0").replace("$k", key) + " -> NO");
            }
        }
        for (String t : NO_SESSIONS) {
            Script.sentence("Promise 1", "NO if there is no such session (or t, or row key), then BROKEN: no such t", BROKEN_SCENE + "! merge 0 " + t + " 5 -> NO");
        }
    }

    private static void brokenBeforeTheRest() {
        for (String call : List.of("make 0 5 1 1 -1", "make 0 9 1 1 -2", "make 0 9 1 1 16", "persist 0 9", "get 0 6", "get 0 9",
            "read 0 9 0", "read 0 5 -1", "read 0 5 6", "write 0 5 -1 0", "write 0 5 3 0", "write 0 5 2 -2", "write 0 6 0 1",
            "write 0 9 0 1", "remove 0 1", "remove 0 9", "detach 0 9", "merge 0 0 5", "merge 0 1 5", "merge 0 1 6",
            "refresh 0 1", "refresh 0 9", "find 0 -1 0", "find 0 3 0")) {
            Script.sentence("Promise 1", "then BROKEN [..] and then what is said with them", BROKEN_SCENE + "! " + call + " -> BROKEN");
        }
    }

    private static void mode() {
        String effects = """
            stored 4 7 8 -1
            stored 5 7 8 4
            stored 6 7 8 4
            make 0 1 1 1 2
            make 0 2 1 1 -1
            persist 0 1
            refer 0 4
            refer 0 5
            get 0 4
            remove 0 4
            states 0 -> """;
        for (String what : List.of("-1", "3", "MIN", "MAX")) {
            Script.sentence("Promise 2", "false for others: nothing is on then",
                "mode $ on -> false\n".replace("$", what) + effects + " 1N 2T 4R 5P");
            Script.sentence("Promise 2", "false for others: nothing is off then", """
                mode 0 on
                mode 1 on
                mode 2 on
                mode $ off -> false
                """.replace("$", what) + effects + " 1N 2N 4R 5R 6R");
            Script.sentence("Promise 2", "false for others", SCENE + "! mode " + what + " on -> false");
            Script.sentence("Promise 2", "false for others", SCENE + "! mode " + what + " off -> false");
        }
        List<String> alone = List.of(" 1N 2N 4R 5P", " 1N 2T 4R 5R 6R", " 1N 2T 4R 5M");
        for (int what = 0; what < 3; what++) {
            Script.sentence("Promise 2", "is on or off from now on: one alone on",
                "mode $ on\nmode $ on\n".replace("$", "" + what) + effects + alone.get(what));
            Script.sentence("Promise 2", "is on or off from now on: on and off again",
                "mode $ on\nmode $ off\nmode $ off\n".replace("$", "" + what) + effects + " 1N 2T 4R 5P");
        }
    }

    private static void make() {
        Script.sentence("Promise 3", "A TRANSIENT entity with ints a, b and a LINK: the least and the greatest ints", """
            make 0 0 MIN MAX 0
            entity 0 0 -> MIN MAX 0 0
            make 0 15 MAX MIN 15
            entity 0 15 -> MAX MIN 15 0
            states 0 -> 0T 15T
            """);
        Script.sentence("Promise 3", "A TRANSIENT entity: also for a row that is there, or is LOCKED", """
            stored 4 7 8 -1
            make 0 4 1 1 -1
            entity 0 4 -> 1 1 -1 0
            make 1 5 1 1 -1
            persist 1 5
            flush 1
            make 0 5 2 2 -1
            states 0 -> 4T 5T
            counts -> 0 0 2 0 0
            """);
        for (String key : List.of("1", "2", "4", "5", "6")) {
            Script.sentence("Promise 3", "NO if there is one", SCENE + "! make 0 " + key + " 9 9 9 -> NO");
            Script.sentence("Promise 3", "NO if there is one, or the link is not -1..15: both",
                SCENE + "! make 0 " + key + " 9 9 16 -> NO");
        }
        Script.sentenceForEach("Promise 3", "NO if [..] the link is not -1..15", "$link", NO_LINKS, SCENE + """
            ! make 0 9 1 1 $link -> NO
            ! make 2 0 1 1 $link -> NO
            """);
        Script.sentenceForEach("Promise 3", "the link is [..] -1..15", "$link", LINKS, """
            make 0 4 1 1 $link
            read 0 4 2 -> $link
            """);
    }

    private static void persist() {
        Script.sentence("Promise 4", "A TRANSIENT one is NEW", """
            make 0 0 1 2 3
            persist 0 0
            states 0 -> 0N
            entity 0 0 -> 1 2 3 0
            """);
        Script.sentence("Promise 4", "a REMOVED one is MANAGED again", SCENE + """
            persist 0 6
            states 0 -> 1T 2N 4P 5M 6M
            entity 0 6 -> 7 8 -1 0
            """);
        for (String key : List.of("2", "4", "5")) {
            Script.sentence("Promise 4", "for others nothing: OK", SCENE + "! persist 0 " + key + " -> OK");
            Script.sentence("Promise 4", "for others nothing: OK", "mode 0 on\n" + SCENE + "! persist 0 " + key + " -> OK");
        }
        Script.sentence("Promise 4", "NO if there is none", SCENE + """
            ! persist 0 0 -> NO
            ! persist 0 7 -> NO
            ! persist 0 15 -> NO
            """);
    }

    private static void persistUp() {
        StringBuilder chain = new StringBuilder("mode 0 on\n");
        for (int key = 0; key < 16; key++) {
            chain.append("make 0 ").append(key).append(" 0 0 ").append(key == 15 ? -1 : key + 1).append("\n");
        }
        Script.sentence("Promise 4", "and so on: a chain of all sixteen", chain + """
            persist 0 0
            states 0 -> 0N 1N 2N 3N 4N 5N 6N 7N 8N 9N 10N 11N 12N 13N 14N 15N
            """);
        Script.sentence("Promise 4", "and so on: the last of the chain", chain + """
            persist 0 15
            states 0 -> 0T 1T 2T 3T 4T 5T 6T 7T 8T 9T 10T 11T 12T 13T 14T 15N
            """);
        Script.sentence("Promise 4", "and so on: rings of two and of one", """
            mode 0 on
            make 0 0 1 1 15
            make 0 15 1 1 0
            make 0 7 1 1 7
            make 0 8 1 1 7
            persist 0 15
            states 0 -> 0N 7T 8T 15N
            persist 0 7
            states 0 -> 0N 7N 8T 15N
            """);
        Script.sentence("Promise 4", "if that is TRANSIENT: it is none, a PROXY, NEW, MANAGED or REMOVED", "mode 0 on\n" + SCENE + """
            make 0 9 1 1 3
            persist 0 9
            make 0 10 1 1 4
            persist 0 10
            make 0 11 1 1 2
            persist 0 11
            make 0 12 1 1 5
            persist 0 12
            make 0 13 1 1 6
            persist 0 13
            make 0 14 1 1 -1
            persist 0 14
            states 0 -> 1T 2N 4P 5M 6R 9N 10N 11N 12N 13N 14N
            """);
        Script.sentence("Promise 4", "with UP on", """
            make 0 4 1 1 5
            make 0 5 1 1 -1
            persist 0 4
            states 0 -> 4N 5T
            mode 0 on
            persist 0 4
            states 0 -> 4N 5T
            """);
    }

    private static void get() {
        Script.sentence("Promise 5", "If there is none it is LOADED", SCENE + """
            get 0 7
            states 0 -> 1T 2N 4P 5M 6R 7M
            entity 0 7 -> 9 9 -1 0
            """);
        Script.sentence("Promise 5", "if it is a PROXY, TOUCHED", SCENE + """
            get 0 4
            states 0 -> 1T 2N 4M 5M 6R
            """);
        for (String key : List.of("1", "2", "5")) {
            Script.sentence("Promise 5", "OK: one that is there stays", SCENE + "! get 0 " + key + " -> OK");
        }
        Script.sentence("Promise 5", "LOST if that can't be: none stays none, but it is a READ", """
            get 0 0 -> LOST
            get 0 15 -> LOST
            states 0 -> none
            counts -> 2 0 0 0 0
            """);
        Script.sentence("Promise 5", "LOST if that can't be: a PROXY stays so, but it is a READ", """
            refer 0 15
            get 0 15 -> LOST
            get 0 15 -> LOST
            states 0 -> 15P
            counts -> 2 0 0 0 0
            """);
        Script.sentence("Promise 5", "LOST if [..] it is REMOVED", SCENE + "! get 0 6 -> LOST");
    }

    private static void refer() {
        Script.sentence("Promise 6", "If there is none it is a PROXY then: OK, whether the row is there or not", """
            stored 4 7 8 -1
            refer 0 4
            refer 0 0
            refer 0 15
            states 0 -> 0P 4P 15P
            counts -> 0 0 1 0 0
            """);
        for (String key : List.of("1", "2", "4", "5", "6")) {
            Script.sentence("Promise 6", "If there is none: what there is stays", SCENE + "! refer 0 " + key + " -> OK");
        }
    }

    private static void read() {
        for (String key : List.of("0", "7", "15")) {
            Script.sentenceForEach("Promise 7", "NO [..] for 0..3 if there is none", "$", List.of("0", "1", "2", "3"),
                SCENE + "! read 0 " + key + " $ -> NO");
        }
        for (String key : List.of("1", "2", "4", "5", "6", "7")) {
            Script.sentenceForEach("Promise 7", "NO for others: nothing is TOUCHED", "$", List.of("-1", "6", "MIN", "MAX"),
                SCENE + "! read 0 " + key + " $ -> NO");
        }
        Script.sentence("Promise 7", "What 0, 1: an int: the least, the greatest, and those that are errors elsewhere", """
            make 0 4 MIN MAX -1
            read 0 4 0 -> MIN
            read 0 4 1 -> MAX
            write 0 4 0 -1
            write 0 4 1 -3
            read 0 4 0 -> -1
            read 0 4 1 -> -3
            read 0 4 2 -> -1
            """);
        Script.sentence("Promise 7", "the VERSION of the SNAPSHOT (0 without one)", """
            make 0 4 7 7 7
            read 0 4 3 -> 0
            persist 0 4
            read 0 4 3 -> 0
            """);
        Script.sentence("Promise 7", "the VERSION of the SNAPSHOT (0 without one): one that was MANAGED before", """
            stored 4 7 8 -1
            get 0 4
            write 0 4 0 1
            commit 0
            read 0 4 3 -> 1
            detach 0 4
            make 0 4 7 7 -1
            read 0 4 3 -> 0
            persist 0 4
            read 0 4 3 -> 0
            """);
        Script.sentence("Promise 7", "the VERSION of the SNAPSHOT: of a REMOVED one, with its ints and LINK", SCENE + """
            entity 0 6 -> 7 8 -1 0
            """);
        Script.sentence("Promise 7", "4: what it is (0..5)", SCENE + """
            read 0 0 4 -> 0
            read 0 1 4 -> 1
            read 0 2 4 -> 2
            read 0 4 4 -> 3
            read 0 5 4 -> 4
            read 0 6 4 -> 5
            """);
        Script.sentence("Promise 7", "5: 1 if it is DIRTY, else 0", SCENE + """
            read 0 0 5 -> 0
            read 0 1 5 -> 0
            read 0 2 5 -> 0
            read 0 4 5 -> 0
            read 0 5 5 -> 1
            read 0 6 5 -> 0
            write 0 5 0 7
            read 0 5 5 -> 0
            """);
    }

    private static void readTouches() {
        for (List<String> cell : List.of(List.of("0", "7"), List.of("1", "8"), List.of("2", "-1"), List.of("3", "0"))) {
            Script.sentence("Promise 7", "a PROXY is TOUCHED before", SCENE + "read 0 4 " + cell.get(0) + " -> " + cell.get(1) + """

                states 0 -> 1T 2N 4M 5M 6R
                count 1 -> 3
                """);
            Script.sentence("Promise 7", "a PROXY is TOUCHED before (LOST)", SCENE + "refer 0 15\nread 0 15 " + cell.get(0) + """
                 -> LOST
                states 0 -> 1T 2N 4P 5M 6R 15P
                count 0 -> 2
                """);
        }
        Script.sentence("Promise 7", "TOUCHED before: not for 4 and 5", SCENE + """
            ! read 0 4 4 -> 3
            ! read 0 4 5 -> 0
            """);
    }

    private static void write() {
        Script.sentence("Promise 8", "An int (0, 1) or the LINK (2) becomes v: TRANSIENT, NEW and MANAGED ones", SCENE + """
            write 0 1 0 MIN
            write 0 1 1 MAX
            entity 0 1 -> MIN MAX 3 0
            write 0 2 0 MAX
            write 0 2 1 MIN
            entity 0 2 -> MAX MIN 5 0
            write 0 5 0 MIN
            write 0 5 1 MAX
            entity 0 5 -> MIN MAX -1 0
            states 0 -> 1T 2N 4P 5M 6R
            row 5 -> 7 8 -1 0
            """);
        for (String key : List.of("1", "2", "5")) {
            Script.sentenceForEach("Promise 8", "or the LINK (2) becomes v", "$", LINKS, SCENE + """
                write 0 $k 2 $
                read 0 $k 2 -> $
                """.replace("$k", key));
        }
        for (String key : List.of("1", "2", "4", "5", "6", "9")) {
            Script.sentenceForEach("Promise 8", "NO for others", "$", List.of("-1", "3", "4", "5", "MIN", "MAX"),
                SCENE + "! write 0 " + key + " $ 1 -> NO");
            Script.sentenceForEach("Promise 8", "NO [..] for a link that is not -1..15", "$", NO_LINKS,
                SCENE + "! write 0 " + key + " 2 $ -> NO");
        }
        Script.sentenceForEach("Promise 8", "NO [..] if there is none, or it is REMOVED", "$", List.of("0", "1", "2"), SCENE + """
            ! write 0 0 $ 1 -> NO
            ! write 0 7 $ 1 -> NO
            ! write 0 15 $ 1 -> NO
            ! write 0 6 $ 1 -> NO
            """);
    }

    private static void writeTouches() {
        for (List<String> cell : List.of(List.of("0", "2 8 -1 0"), List.of("1", "7 2 -1 0"), List.of("2", "7 8 2 0"))) {
            Script.sentence("Promise 8", "a PROXY is TOUCHED before", SCENE + "write 0 4 " + cell.get(0) + """
                 2
                states 0 -> 1T 2N 4M 5M 6R
                read 0 4 5 -> 1
                count 1 -> 3
                """ + "entity 0 4 -> " + cell.get(1));
            Script.sentence("Promise 8", "a PROXY is TOUCHED before (LOST)", SCENE + "refer 0 15\nwrite 0 15 " + cell.get(0) + """
                 2 -> LOST
                states 0 -> 1T 2N 4P 5M 6R 15P
                count 0 -> 2
                """);
        }
        Script.sentence("Promise 8", "NO for others, for a link that is not -1..15: before LOST, as a PROXY is not TOUCHED then", SCENE + """
            refer 0 15
            ! write 0 15 3 2 -> NO
            ! write 0 15 2 16 -> NO
            """);
    }

    private static void detach() {
        for (String key : List.of("1", "2", "4", "5", "6")) {
            Script.sentence("Promise 10", "There is none then: OK", SCENE + """
                detach 0 $
                read 0 $ 4 -> 0
                read 0 $ 0 -> NO
                ! detach 0 $ -> NO
                make 0 $ 1 1 -1
                """.replace("$", key));
        }
        Script.sentence("Promise 10", "There is none then: it is not written, and what was WRITTEN stays", SCENE + """
            detach 0 5
            detach 0 6
            detach 0 2
            detach 1 7
            flush 0
            statements -> none
            locks -> 7:1
            commit 1
            row 5 -> 7 8 -1 0
            row 6 -> 7 8 -1 0
            row 7 -> 1 9 -1 1
            """);
        Script.sentence("Promise 10", "NO if there was none", SCENE + """
            ! detach 0 0 -> NO
            ! detach 0 7 -> NO
            ! detach 0 15 -> NO
            ! detach 2 5 -> NO
            """);
    }
}
