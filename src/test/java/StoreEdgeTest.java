import java.util.List;

/** The boundary cases of the terms THE STORE, SESSIONS, LOAD, THE CACHE and TOUCH: each sentence has its own runs. */
public final class StoreEdgeTest {
    private static final List<String> ALL_SESSIONS = List.of("0", "1", "2");

    public static void main(String[] args) {
        rows();
        fullStore();
        cells();
        committed();
        locked();
        sight();
        entities();
        snapshots();
        dirty();
        load();
        cache();
        fullCache();
        touch();
        batch();
        batchReads();
        lost();
        Due.end();
    }

    private static String repeat(String line, int first, int last) {
        StringBuilder run = new StringBuilder();
        for (int key = first; key <= last; key++) {
            run.append(line.replace("$k", "" + key)).append("\n");
        }
        return run.toString();
    }

    private static String fullStoreRun() {
        return repeat("make 0 $k $k 5 -1\npersist 0 $k", 0, 15) + "commit 0\nrollback 0\n";
    }

    private static void rows() {
        Script.sentence("THE STORE", "THE STORE has ROWS 0..15", """
            make 0 0 1 2 15
            persist 0 0
            make 0 15 3 4 0
            persist 0 15
            commit 0
            row 0 -> 1 2 15 1
            row 15 -> 3 4 0 0
            row 1 -> none
            row 14 -> none
            """);
        Script.sentence("THE STORE", "there or not: a store with nothing in it", """
            find 0 0 0 -> 0
            find 0 1 0 -> 0
            find 0 2 0 -> 0
            find 0 2 -1 -> 0
            found -> none
            flush 0
            commit 1
            rollback 2
            statements -> none
            states 0 -> none
            get 0 0 -> LOST
            get 0 15 -> LOST
            counts -> 6 0 0 0 0
            """);
        Script.sentence("THE STORE", "there or not: a row that was deleted is not there", """
            stored 0 1 2 -1
            get 0 0
            remove 0 0
            commit 0
            row 0 -> none
            get 1 0 -> LOST
            find 1 0 1 -> 0
            stored 0 3 4 0
            row 0 -> 3 4 0 0
            """);
    }

    private static void fullStore() {
        Script.sentence("THE STORE", "has ROWS 0..15: all of them there", fullStoreRun() + """
            statements -> I0 I1 I2 I3 I4 I5 I6 I7 I8 I9 I10 I11 I12 I13 I14 I15
            find 1 1 5 -> 16
            found -> 0 1 2 3 4 5 6 7 8 9 10 11 12 13 14 15
            states 1 -> 0M 1M 2M 3M 4M 5M 6M 7M 8M 9M 10M 11M 12M 13M 14M 15M
            find 1 0 15 -> 1
            found -> 15
            make 0 15 0 0 -1
            persist 0 15
            flush 0 -> DUPLICATE
            """);
        Script.sentence("THE STORE", "has ROWS 0..15: all of them deleted again", fullStoreRun()
            + repeat("get 1 $k\nremove 1 $k", 0, 15) + """
            commit 1
            statements -> D0 D1 D2 D3 D4 D5 D6 D7 D8 D9 D10 D11 D12 D13 D14 D15
            find 0 1 5 -> 0
            cache -> none
            locks -> none
            counts -> 1 16 16 0 16
            """);
    }

    private static void cells() {
        Script.sentence("THE STORE", "each with two ints: the least and the greatest", """
            stored 4 MIN MAX -1
            row 4 -> MIN MAX -1 0
            get 0 4
            entity 0 4 -> MIN MAX -1 0
            find 1 0 MIN -> 1
            find 1 1 MAX -> 1
            find 1 0 MAX -> 0
            find 1 1 MIN -> 0
            write 0 4 0 MAX
            write 0 4 1 MIN
            commit 0
            row 4 -> MAX MIN -1 1
            """);
        Script.sentence("THE STORE", "each with two ints: those that are errors elsewhere", """
            stored 4 -1 -8 -1
            row 4 0 -> -1
            row 4 1 -> -8
            get 0 4
            read 0 4 0 -> -1
            read 0 4 1 -> -8
            find 1 1 -8 -> 1
            """);
        Script.sentenceForEach("THE STORE", "a LINK (2) to a row, or -1", "$link", List.of("-1", "0", "4", "15"), """
            stored 0 0 0 -1
            stored 15 0 0 -1
            stored 4 1 1 $link
            row 4 -> 1 1 $link 0
            get 0 4
            read 0 4 2 -> $link
            """);
        StringBuilder run = new StringBuilder("stored 4 0 0 -1\nget 0 4\n");
        for (int n = 1; n <= 60; n++) {
            run.append("write 0 4 0 ").append(n).append("\nflush 0\nread 0 4 3 -> ").append(n).append("\n");
            run.append(n % 20 == 0 ? "commit 0\nrow 4 3 -> " + n + "\n" : "");
        }
        Script.sentence("THE STORE", "and a VERSION (3): after many UPDATEs", run.toString());
    }

    private static void committed() {
        Script.sentenceForEach("THE STORE", "What is COMMITTED all see", "$s", ALL_SESSIONS, """
            make $s 4 7 8 -1
            persist $s 4
            commit $s
            get 0 4
            get 1 4
            get 2 4
            entity 0 4 -> 7 8 -1 0
            entity 1 4 -> 7 8 -1 0
            entity 2 4 -> 7 8 -1 0
            row 4 -> 7 8 -1 0
            """);
    }

    private static void locked() {
        Script.sentenceForEach("THE STORE", "a row that a session has WRITTEN [..] is LOCKED by it", "$s", ALL_SESSIONS, """
            stored 4 7 8 -1
            stored 15 7 8 -1
            make $s 0 1 1 -1
            persist $s 0
            get $s 4
            write $s 4 0 1
            get $s 15
            remove $s 15
            locks -> none
            flush $s
            locks -> 0:$s 4:$s 15:$s
            """);
        Script.sentence("THE STORE", "since it committed [..] last", """
            make 0 4 1 1 -1
            persist 0 4
            commit 0
            locks -> none
            write 0 4 0 2
            flush 0
            locks -> 4:0
            commit 0
            locks -> none
            flush 0
            locks -> none
            """);
        Script.sentence("THE STORE", "since it [..] rolled back last", """
            make 0 4 1 1 -1
            persist 0 4
            flush 0
            locks -> 4:0
            rollback 0
            locks -> none
            row 4 -> none
            make 1 4 2 2 -1
            persist 1 4
            commit 1
            row 4 -> 2 2 -1 0
            """);
        Script.sentence("THE STORE", "WRITTEN: inserted and deleted again, it is LOCKED still", """
            make 0 4 1 1 -1
            persist 0 4
            flush 0
            remove 0 4
            flush 0
            statements -> D4
            locks -> 4:0
            make 1 4 2 2 -1
            persist 1 4
            flush 1 -> BUSY
            commit 0
            locks -> none
            rollback 1
            make 1 4 2 2 -1
            persist 1 4
            flush 1
            """);
        Script.sentence("THE STORE", "WRITTEN: what comes back to what it was before the FLUSH is not", """
            stored 4 7 8 -1
            get 0 4
            write 0 4 0 9
            write 0 4 0 7
            flush 0
            statements -> none
            locks -> none
            cache -> 4
            """);
    }

    private static void sight() {
        String written = """
            stored 4 7 8 -1
            stored 5 7 8 -1
            get 0 4
            write 0 4 0 1
            get 0 5
            remove 0 5
            make 0 6 7 6 -1
            persist 0 6
            flush 0
            """;
        Script.sentence("THE STORE", "only it sees what it wrote", written + """
            detach 0 4
            get 0 4
            entity 0 4 -> 1 8 -1 1
            get 1 4
            entity 1 4 -> 7 8 -1 0
            get 2 4
            entity 2 4 -> 7 8 -1 0
            row 4 -> 7 8 -1 0
            """);
        Script.sentence("THE STORE", "(or that the row is not there any more", written + """
            get 0 5 -> LOST
            get 1 5
            get 2 5
            entity 2 5 -> 7 8 -1 0
            row 5 -> 7 8 -1 0
            """);
        Script.sentence("THE STORE", "or is now): its SIGHT", written + """
            detach 0 6
            get 0 6
            entity 0 6 -> 7 6 -1 0
            get 1 6 -> LOST
            get 2 6 -> LOST
            row 6 -> none
            find 0 0 7 -> 1
            found -> 6
            find 1 0 7 -> 2
            found -> 4 5
            """);
    }

    private static void entities() {
        Script.sentence("SESSIONS", "SESSIONS 0..2 have for each row an ENTITY", """
            make 0 0 1 1 -1
            make 1 0 2 2 -1
            make 2 0 3 3 -1
            make 2 15 4 4 -1
            entity 0 0 -> 1 1 -1 0
            entity 1 0 -> 2 2 -1 0
            entity 2 0 -> 3 3 -1 0
            states 0 -> 0T
            states 1 -> 0T
            states 2 -> 0T 15T
            detach 2 0
            states 0 -> 0T
            states 1 -> 0T
            states 2 -> 15T
            """);
        Script.sentence("SESSIONS", "for each row: one that has all sixteen", repeat("make 1 $k $k $k $k", 0, 15) + """
            states 1 -> 0T 1T 2T 3T 4T 5T 6T 7T 8T 9T 10T 11T 12T 13T 14T 15T
            states 0 -> none
            states 2 -> none
            entity 1 0 -> 0 0 0 0
            entity 1 15 -> 15 15 15 0
            ! make 1 0 9 9 9 -> NO
            ! make 1 15 9 9 9 -> NO
            """);
        Script.sentence("SESSIONS", "or none (0). It is TRANSIENT (1), [..] NEW (2), [..] a PROXY (3), [..] MANAGED (4), [..] or REMOVED (5)", """
            stored 3 0 0 -1
            stored 4 0 0 -1
            make 0 1 0 0 -1
            make 0 2 0 0 -1
            persist 0 2
            refer 0 3
            get 0 4
            refer 0 0
            detach 0 0
            read 0 0 4 -> 0
            read 0 1 4 -> 1
            read 0 2 4 -> 2
            read 0 3 4 -> 3
            read 0 4 4 -> 4
            remove 0 4
            read 0 4 4 -> 5
            """);
    }

    private static void snapshots() {
        Script.sentence("SESSIONS", "MANAGED and REMOVED ones have a SNAPSHOT", """
            stored 4 7 8 -1
            get 0 4
            write 0 4 0 1
            commit 0
            read 0 4 3 -> 1
            remove 0 4
            read 0 4 3 -> 1
            persist 0 4
            read 0 4 3 -> 1
            read 0 4 5 -> 0
            """);
        Script.sentence("SESSIONS", "as they were when it was loaded", """
            stored 4 7 8 -1
            get 0 4
            get 1 4
            write 1 4 0 1
            commit 1
            read 0 4 3 -> 0
            read 0 4 5 -> 0
            read 0 4 0 -> 7
            """);
        Script.sentence("SESSIONS", "or written last", """
            stored 4 7 8 -1
            get 0 4
            write 0 4 0 1
            flush 0
            read 0 4 3 -> 1
            read 0 4 5 -> 0
            write 0 4 0 7
            read 0 4 5 -> 1
            """);
    }

    private static void dirty() {
        for (String what : List.of("0", "1")) {
            Script.sentence("SESSIONS", "A MANAGED one is DIRTY if its ints [..] are others", """
                stored 4 MIN MIN 4
                get 0 4
                read 0 4 5 -> 0
                write 0 4 $what MAX
                read 0 4 5 -> 1
                write 0 4 $what 0
                read 0 4 5 -> 1
                write 0 4 $what -2147483647
                read 0 4 5 -> 1
                write 0 4 $what MIN
                read 0 4 5 -> 0
                flush 0
                statements -> none
                """.replace("$what", what));
        }
        Script.sentence("SESSIONS", "A MANAGED one is DIRTY if its [..] LINK are others", """
            stored 0 0 0 -1
            get 0 0
            write 0 0 2 0
            read 0 0 5 -> 1
            write 0 0 2 -1
            read 0 0 5 -> 0
            write 0 0 2 15
            read 0 0 5 -> 1
            """);
        Script.sentence("SESSIONS", "A MANAGED one is DIRTY: no other one is", """
            stored 4 7 8 -1
            read 0 4 5 -> 0
            refer 0 4
            read 0 4 5 -> 0
            read 0 4 4 -> 3
            make 0 5 1 1 -1
            write 0 5 0 2
            read 0 5 5 -> 0
            persist 0 5
            write 0 5 0 3
            read 0 5 5 -> 0
            write 0 4 0 1
            remove 0 4
            read 0 4 5 -> 0
            persist 0 4
            read 0 4 5 -> 1
            """);
    }

    private static void load() {
        Script.sentence("LOAD", "if the CACHE has it that is a HIT", """
            stored 4 7 8 -1
            get 0 4
            counts -> 0 1 1 0 0
            entity 0 4 -> 7 8 -1 0
            """);
        Script.sentence("LOAD", "else it is taken from the STORE, as in its SIGHT (that is a READ)", """
            stored 4 7 8 -1
            uncached 4
            counts -> 1 0 1 1 0
            get 0 4
            counts -> 2 0 1 1 0
            entity 0 4 -> 7 8 -1 0
            get 0 4
            counts -> 2 0 1 1 0
            write 0 4 0 1
            flush 0
            detach 0 4
            get 0 4
            entity 0 4 -> 1 8 -1 1
            counts -> 3 0 1 2 0
            """);
        Script.sentence("LOAD", "if it is not there it can't be loaded", """
            get 0 0 -> LOST
            get 0 15 -> LOST
            states 0 -> none
            cache -> none
            make 1 4 1 1 -1
            persist 1 4
            flush 1
            get 0 4 -> LOST
            counts -> 3 0 1 0 0
            """);
        Script.sentence("Promise 21", "To LOAD a row alone that is not there is a READ, too", """
            get 0 4 -> LOST
            counts -> 1 0 0 0 0
            refer 0 4
            get 0 4 -> LOST
            counts -> 2 0 0 0 0
            make 1 4 1 1 -1
            merge 0 1 4
            counts -> 3 0 0 0 0
            """);
    }

    private static void cache() {
        Script.sentence("THE CACHE", "THE CACHE has some COMMITTED rows: none of a new object", "cache -> none");
        for (String taken : List.of("get 0 4", "refer 0 4\nget 0 4", "refer 0 4\nread 0 4 0 -> 7", "refer 0 4\nwrite 0 4 0 1",
            "refer 0 4\nremove 0 4", "refer 0 4\nrefresh 0 4", "make 1 4 1 1 -1\nmerge 0 1 4")) {
            Script.sentence("THE CACHE", "a row that is taken from the STORE [..] is in it from then on", """
                stored 4 7 8 -1
                uncached 4
                cache -> none
                """ + taken + """

                cache -> 4
                counts -> 2 0 1 1 0
                refer 2 4
                get 2 4
                counts -> 2 1 1 1 0
                """);
        }
        Script.sentence("THE CACHE", "(not by find", """
            stored 4 7 8 -1
            uncached 4
            find 0 0 7 -> 1
            states 0 -> 4M
            cache -> none
            """);
        Script.sentence("THE CACHE", "or remove)", """
            stored 4 7 8 -1
            stored 5 7 8 4
            uncached 5
            mode 1 on
            get 0 4
            remove 0 4
            states 0 -> 4R 5R
            cache -> 4
            """);
        Script.sentence("THE CACHE", "and LOCKED by nobody", """
            stored 4 7 8 -1
            get 0 4
            write 0 4 0 1
            flush 0
            refresh 0 4
            cache -> none
            get 1 4
            cache -> none
            refer 2 4
            read 2 4 0 -> 7
            cache -> none
            rollback 0
            cache -> none
            refresh 1 4
            cache -> 4
            """);
        Script.sentence("THE CACHE", "until it is WRITTEN", """
            stored 4 7 8 -1
            stored 5 7 8 -1
            get 0 4
            get 0 5
            write 0 4 0 1
            remove 0 5
            cache -> 4 5
            flush 0
            cache -> none
            rollback 0
            cache -> none
            """);
        Script.sentence("THE CACHE", "until it is WRITTEN: a STATEMENT that was not done has not", """
            stored 4 7 8 -1
            stored 5 7 8 -1
            get 0 4
            get 1 4
            write 1 4 0 1
            commit 1
            write 0 4 0 2
            flush 0 -> STALE
            cache -> 4 5
            make 2 5 0 0 -1
            persist 2 5
            flush 2 -> DUPLICATE
            cache -> 4 5
            """);
        Script.sentence("THE CACHE", "those that were WRITTEN, and are there, are in it from the commit on", """
            stored 4 7 8 -1
            stored 5 7 8 -1
            stored 6 7 8 -1
            get 0 4
            write 0 4 0 1
            get 0 5
            remove 0 5
            get 0 6
            remove 0 6
            make 0 7 1 1 -1
            persist 0 7
            make 0 8 1 1 -1
            persist 0 8
            flush 0
            cache -> none
            make 0 6 2 2 -1
            persist 0 6
            remove 0 8
            flush 0
            cache -> none
            commit 0
            cache -> 4 6 7
            get 1 6
            entity 1 6 -> 2 2 -1 0
            """);
    }

    private static void fullCache() {
        Script.sentence("THE CACHE", "has some COMMITTED rows: all of them", fullStoreRun() + """
            cache -> 0 1 2 3 4 5 6 7 8 9 10 11 12 13 14 15
            """ + repeat("get 1 $k\nread 1 $k 0 -> $k", 0, 15) + """
            counts -> 0 16 16 0 0
            cache -> 0 1 2 3 4 5 6 7 8 9 10 11 12 13 14 15
            """);
    }

    private static void touch() {
        Script.sentence("TOUCH", "its row is LOADED", """
            stored 4 7 8 4
            refer 0 4
            read 0 4 2 -> 4
            states 0 -> 4M
            counts -> 0 1 1 0 0
            """);
        Script.sentence("TOUCH", "if BATCH is on: others are not LOADED while it is off", """
            stored 4 7 8 -1
            stored 5 7 8 -1
            refer 0 4
            refer 0 5
            get 0 5
            states 0 -> 4P 5M
            """);
    }

    /** Rows 0, 3, 7, 11 and 15, not in the cache, and proxies for all of them in sessions 0 and 1; six READs so far. */
    private static String fiveProxies() {
        StringBuilder run = new StringBuilder("mode 2 on\n");
        for (String key : List.of("0", "3", "7", "11", "15")) {
            run.append("stored $k $k 5 -1\nuncached $k\nrefer 0 $k\nrefer 1 $k\n".replace("$k", key));
        }
        return run + "counts -> 5 0 5 5 0\n";
    }

    private static void batch() {
        Script.sentence("TOUCH", "after it those of the two least other PROXIES", fiveProxies() + """
            read 0 11 0 -> 11
            states 0 -> 0M 3M 7P 11M 15P
            states 1 -> 0P 3P 7P 11P 15P
            counts -> 6 0 5 5 0
            cache -> 0 3 11
            get 0 7
            states 0 -> 0M 3M 7M 11M 15M
            counts -> 7 0 5 5 0
            """);
        Script.sentence("TOUCH", "the two least other PROXIES: it is the least itself", fiveProxies() + """
            read 0 0 1 -> 5
            states 0 -> 0M 3M 7M 11P 15P
            counts -> 6 0 5 5 0
            """);
        Script.sentence("TOUCH", "the two least other PROXIES: it is between them", fiveProxies() + """
            write 0 3 1 9
            states 0 -> 0M 3M 7M 11P 15P
            entity 0 3 -> 3 9 -1 0
            entity 0 7 -> 7 5 -1 0
            """);
        Script.sentence("TOUCH", "the two least other PROXIES: there is none", """
            stored 4 7 8 -1
            mode 2 on
            refer 0 4
            get 0 4
            states 0 -> 4M
            counts -> 0 1 1 0 0
            """);
        Script.sentence("TOUCH", "the two least other PROXIES: there is one", """
            stored 4 7 8 -1
            stored 15 7 8 -1
            mode 2 on
            refer 0 4
            refer 0 15
            get 0 4
            states 0 -> 4M 15M
            counts -> 0 2 2 0 0
            """);
        Script.sentence("TOUCH", "the two least other PROXIES: a session that has all sixteen", fullStoreRun() + repeat("refer 1 $k", 0, 15) + """
            mode 2 on
            read 1 15 0 -> 15
            states 1 -> 0M 1M 2P 3P 4P 5P 6P 7P 8P 9P 10P 11P 12P 13P 14P 15M
            counts -> 0 3 16 0 0
            find 1 1 5 -> 16
            states 1 -> 0M 1M 2M 3M 4M 5M 6M 7M 8M 9M 10M 11M 12M 13M 14M 15M
            counts -> 1 3 16 0 0
            """);
        Script.sentence("TOUCH", "other PROXIES of the session: no other entities are LOADED", """
            stored 3 7 8 -1
            stored 4 7 8 -1
            stored 5 7 8 -1
            stored 6 7 8 -1
            mode 2 on
            make 0 3 1 1 -1
            make 0 4 1 1 -1
            persist 0 4
            get 0 5
            write 0 5 0 1
            refer 0 6
            refer 1 5
            get 0 6
            states 0 -> 3T 4N 5M 6M
            entity 0 5 -> 1 8 -1 0
            states 1 -> 5P
            """);
        Script.sentence("TOUCH", "as far as they can be", """
            stored 4 7 8 -1
            stored 6 7 8 -1
            stored 7 7 8 -1
            mode 2 on
            refer 0 4
            refer 0 5
            refer 0 6
            refer 0 7
            get 0 4
            states 0 -> 4M 5P 6M 7P
            counts -> 1 2 3 0 0
            """);
    }

    private static void batchReads() {
        Script.sentence("TOUCH", "all of these that are taken from the STORE [..] are one READ together", """
            stored 4 7 8 -1
            stored 5 7 8 -1
            stored 6 7 8 -1
            uncached 5
            uncached 6
            mode 2 on
            refer 0 4
            refer 0 5
            refer 0 6
            counts -> 2 0 3 2 0
            get 0 4
            counts -> 3 1 3 2 0
            """);
        Script.sentence("TOUCH", "or can't be loaded, are one READ together", """
            stored 4 7 8 -1
            mode 2 on
            refer 0 4
            refer 0 5
            refer 0 6
            get 0 4
            states 0 -> 4M 5P 6P
            counts -> 1 1 1 0 0
            """);
        Script.sentence("TOUCH", "are one READ together: none if all are HITs", """
            stored 4 7 8 -1
            stored 5 7 8 -1
            stored 6 7 8 -1
            mode 2 on
            refer 0 4
            refer 0 5
            refer 0 6
            get 0 5
            states 0 -> 4M 5M 6M
            counts -> 0 3 3 0 0
            """);
        Script.sentence("TOUCH", "are one READ together: one taken, one HIT, one that can't be", """
            stored 4 7 8 -1
            uncached 4
            stored 5 7 8 -1
            mode 2 on
            refer 0 0
            refer 0 4
            refer 0 5
            counts -> 1 0 2 1 0
            get 0 4
            states 0 -> 0P 4M 5M
            counts -> 2 1 2 1 0
            """);
    }

    private static void lost() {
        for (String call : List.of("get 0 5", "read 0 5 0", "read 0 5 1", "read 0 5 2", "read 0 5 3", "write 0 5 0 1",
            "write 0 5 2 -1", "remove 0 5")) {
            Script.sentence("TOUCH", "If its own can't be loaded (then no other one is) it is LOST, and stays a PROXY", """
                stored 4 7 8 -1
                stored 6 7 8 -1
                uncached 6
                mode 2 on
                refer 0 4
                refer 0 5
                refer 0 6
                counts -> 1 0 2 1 0
                """ + call + """
                 -> LOST
                states 0 -> 4P 5P 6P
                cache -> 4
                counts -> 2 0 2 1 0
                """);
        }
    }
}
