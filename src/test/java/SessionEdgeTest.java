import java.util.List;

/** The boundary cases of promises 9, 11, 12, 13, 15, 16 and 17, with what 21 says of them. Each sentence has its own runs. */
public final class SessionEdgeTest {
    /** Rows 4, 5 and 6; session 0 has an entity of every kind, session 1 has none. */
    private static final String SCENE = """
        stored 4 7 8 -1
        stored 5 7 8 -1
        stored 6 7 8 -1
        make 0 1 1 2 3
        make 0 2 3 4 -1
        persist 0 2
        refer 0 4
        get 0 5
        write 0 5 0 1
        get 0 6
        remove 0 6
        states 0 -> 1T 2N 4P 5M 6R
        counts -> 0 2 3 0 0
        """;

    public static void main(String[] args) {
        remove();
        removeRefused();
        down();
        downAllSixteen();
        downOnlyThese();
        downInTheSight();
        mergeRefused();
        merge();
        mergeLoads();
        mergeStale();
        refresh();
        refreshLost();
        find();
        findFlushes();
        findRefused();
        flush();
        commit();
        commitRefused();
        rollback();
        Due.end();
    }

    private static void remove() {
        Script.sentence("Promise 9", "A MANAGED one is REMOVED", SCENE + """
            remove 0 5
            states 0 -> 1T 2N 4P 5R 6R
            entity 0 5 -> 1 8 -1 0
            counts -> 0 2 3 0 0
            """);
        Script.sentence("Promise 9", "a PROXY too, after it was TOUCHED", SCENE + """
            remove 0 4
            states 0 -> 1T 2N 4R 5M 6R
            entity 0 4 -> 7 8 -1 0
            counts -> 0 3 3 0 0
            """);
        Script.sentence("Promise 21", "the row of a PROXY that it TOUCHES comes into the CACHE as by any TOUCH", """
            stored 4 7 8 -1
            uncached 4
            refer 0 4
            cache -> none
            remove 0 4
            cache -> 4
            counts -> 2 0 1 1 0
            """);
        Script.sentence("Promise 9", "after it was TOUCHED: with BATCH on two others are LOADED, but not REMOVED", """
            stored 3 7 8 -1
            stored 4 7 8 -1
            stored 5 7 8 -1
            mode 2 on
            refer 0 3
            refer 0 4
            refer 0 5
            remove 0 4
            states 0 -> 3M 4R 5M
            """);
        Script.sentence("Promise 9", "a NEW one is TRANSIENT", SCENE + """
            remove 0 2
            states 0 -> 1T 2T 4P 5M 6R
            entity 0 2 -> 3 4 -1 0
            remove 0 2 -> NO
            """);
        Script.sentence("Promise 9", "a REMOVED one stays so: OK", SCENE + "! remove 0 6 -> OK");
    }

    private static void removeRefused() {
        Script.sentence("Promise 9", "a PROXY too, after it was TOUCHED (LOST)", """
            refer 0 0
            refer 0 15
            mode 1 on
            remove 0 0 -> LOST
            remove 0 15 -> LOST
            states 0 -> 0P 15P
            counts -> 2 0 0 0 0
            """);
        Script.sentence("Promise 9", "NO for others", SCENE + """
            ! remove 0 0 -> NO
            ! remove 0 1 -> NO
            ! remove 0 15 -> NO
            ! remove 1 5 -> NO
            mode 1 on
            ! remove 0 0 -> NO
            ! remove 0 1 -> NO
            """);
    }

    private static void down() {
        Script.sentence("Promise 9", "With DOWN on, [..] each time one READ more: none LINKs to it", """
            stored 4 7 8 -1
            mode 1 on
            get 0 4
            remove 0 4
            states 0 -> 4R
            counts -> 1 1 1 0 0
            """);
        Script.sentence("Promise 9", "each time one READ more: of a PROXY that is taken from the STORE, two", """
            stored 4 7 8 -1
            uncached 4
            mode 1 on
            refer 0 4
            counts -> 1 0 1 1 0
            remove 0 4
            counts -> 3 0 1 1 0
            """);
        Script.sentence("Promise 9", "rows of the SIGHT that do, for which there is none or a PROXY (which are MANAGED before), and so on", """
            stored 0 1 1 -1
            stored 15 2 2 0
            stored 3 3 3 15
            stored 4 4 4 4
            mode 1 on
            get 0 0
            refer 0 15
            remove 0 0
            states 0 -> 0R 3R 15R
            entity 0 15 -> 2 2 0 0
            entity 0 3 -> 3 3 15 0
            counts -> 3 1 4 0 0
            persist 0 15
            read 0 15 4 -> 4
            read 0 15 5 -> 0
            """);
        Script.sentence("Promise 9", "and so on: one that LINKs to itself, and a ring", """
            stored 4 7 8 4
            stored 5 7 8 -1
            stored 6 7 8 5
            get 1 5
            write 1 5 2 6
            commit 1
            mode 1 on
            get 0 4
            remove 0 4
            states 0 -> 4R
            counts -> 1 2 3 1 0
            get 0 6
            remove 0 6
            states 0 -> 4R 5R 6R
            counts -> 3 3 3 1 0
            commit 0
            statements -> D4 D5 D6
            """);
    }

    private static void downAllSixteen() {
        StringBuilder chain = new StringBuilder();
        for (int key = 0; key < 16; key++) {
            chain.append("make 0 $ $ 0 ".replace("$", "" + key)).append(key == 15 ? -1 : key + 1).append("\n");
            chain.append("persist 0 ").append(key).append("\n");
        }
        chain.append("commit 0\nmode 1 on\n");
        Script.sentence("Promise 9", "and so on: a chain of all sixteen", chain + """
            get 1 15
            remove 1 15
            states 1 -> 0R 1R 2R 3R 4R 5R 6R 7R 8R 9R 10R 11R 12R 13R 14R 15R
            counts -> 16 1 16 0 0
            commit 1
            statements -> D0 D1 D2 D3 D4 D5 D6 D7 D8 D9 D10 D11 D12 D13 D14 D15
            """);
        Script.sentence("Promise 9", "and so on: the first of a chain of all sixteen", chain + """
            get 1 0
            remove 1 0
            states 1 -> 0R
            counts -> 1 1 16 0 0
            """);
    }

    private static void downOnlyThese() {
        Script.sentence("Promise 9", "MANAGED and NEW ones that LINK to it likewise: by their LINKs of now", """
            stored 4 7 8 -1
            stored 5 7 8 4
            stored 6 7 8 -1
            mode 1 on
            get 0 4
            get 0 5
            get 0 6
            write 0 5 2 -1
            write 0 6 2 4
            make 0 7 1 1 4
            persist 0 7
            remove 0 4
            states 0 -> 4R 5M 6R 7T
            counts -> 2 3 3 0 0
            """);
        Script.sentence("Promise 9", "for each that is REMOVED by this: not for one that is TRANSIENT by it", """
            stored 4 7 8 -1
            mode 1 on
            get 0 4
            make 0 5 1 1 4
            persist 0 5
            make 0 6 1 1 5
            persist 0 6
            remove 0 4
            states 0 -> 4R 5T 6N
            counts -> 1 1 1 0 0
            """);
        Script.sentence("Promise 9", "for each that is REMOVED by this: none by that of a NEW one, or of a REMOVED one", """
            stored 4 7 8 -1
            get 0 4
            remove 0 4
            mode 1 on
            make 0 5 1 1 4
            persist 0 5
            make 0 7 1 1 -1
            persist 0 7
            make 0 8 1 1 7
            persist 0 8
            remove 0 4
            remove 0 7
            states 0 -> 4R 5N 7T 8N
            counts -> 0 1 1 0 0
            """);
        Script.sentence("Promise 9", "MANAGED and NEW ones: no TRANSIENT or REMOVED ones, and none of another session", """
            stored 4 7 8 -1
            stored 5 7 8 4
            stored 6 7 8 4
            mode 1 on
            get 0 4
            make 0 5 1 1 4
            get 0 6
            mode 1 off
            remove 0 6
            mode 1 on
            get 1 6
            make 1 7 1 1 4
            persist 1 7
            remove 0 4
            states 0 -> 4R 5T 6R
            states 1 -> 6M 7N
            counts -> 1 3 3 0 0
            """);
    }

    private static void downInTheSight() {
        Script.sentence("Promise 9", "rows of the SIGHT that do: what the session itself has WRITTEN", """
            stored 4 7 8 -1
            stored 5 7 8 4
            stored 6 7 8 4
            get 0 5
            remove 0 5
            get 0 6
            write 0 6 2 -1
            make 0 7 1 1 4
            persist 0 7
            flush 0
            detach 0 6
            detach 0 7
            mode 1 on
            get 0 4
            remove 0 4
            states 0 -> 4R 7R
            entity 0 7 -> 1 1 4 0
            """);
        Script.sentence("Promise 9", "rows of the SIGHT that do: not what another has WRITTEN", """
            stored 4 7 8 -1
            stored 5 7 8 4
            stored 6 7 8 -1
            get 1 5
            write 1 5 2 -1
            get 1 6
            write 1 6 2 4
            flush 1
            mode 1 on
            get 0 4
            remove 0 4
            states 0 -> 4R 5R
            entity 0 5 -> 7 8 4 0
            """);
        Script.sentence("Promise 21", "(the rows that DOWN takes do not)", """
            stored 4 7 8 -1
            stored 5 7 8 4
            stored 6 7 8 4
            uncached 5
            uncached 6
            mode 1 on
            refer 0 5
            get 0 4
            remove 0 4
            states 0 -> 4R 5R 6R
            cache -> 4
            """);
        Script.sentence("Promise 9", "With DOWN on", """
            stored 4 7 8 -1
            stored 5 7 8 4
            mode 1 on
            mode 1 off
            get 0 4
            get 0 5
            remove 0 4
            states 0 -> 4R 5M
            counts -> 0 2 2 0 0
            """);
    }

    private static void mergeRefused() {
        for (String key : List.of("0", "1", "2", "4", "5", "6")) {
            Script.sentence("Promise 11", "NO if s is t", SCENE + "! merge 0 0 " + key + " -> NO");
        }
        Script.sentence("Promise 11", "NO if [..] that is none, a PROXY or REMOVED: s has none", SCENE + """
            ! merge 1 0 0 -> NO
            ! merge 1 0 15 -> NO
            ! merge 1 0 4 -> NO
            ! merge 1 0 6 -> NO
            """);
        Script.sentence("Promise 11", "NO if [..] that is none, a PROXY or REMOVED: s has one", SCENE + """
            make 1 0 1 1 -1
            get 1 4
            refer 1 6
            ! merge 1 0 0 -> NO
            ! merge 1 0 4 -> NO
            ! merge 1 0 6 -> NO
            """);
        Script.sentence("Promise 11", "NO if [..] the one of s is REMOVED", SCENE + """
            make 1 6 1 1 -1
            get 2 6
            ! merge 0 1 6 -> NO
            ! merge 0 2 6 -> NO
            persist 1 6
            ! merge 0 1 6 -> NO
            """);
        Script.sentence("Promise 11", "NO if [..] the one of s is REMOVED: also where the VERSIONs are not the same", SCENE + """
            get 1 6
            write 1 6 0 1
            commit 1
            ! merge 0 1 6 -> NO
            """);
    }

    private static void merge() {
        Script.sentence("Promise 11", "Session s gets ints and LINK of the entity of t: the least and the greatest", """
            stored 4 7 8 -1
            get 0 4
            get 1 4
            write 1 4 0 MIN
            write 1 4 1 MAX
            write 1 4 2 15
            merge 0 1 4
            entity 0 4 -> MIN MAX 15 0
            entity 1 4 -> MIN MAX 15 0
            read 0 4 5 -> 1
            write 1 4 2 0
            merge 0 1 4
            read 0 4 2 -> 0
            write 1 4 2 -1
            merge 0 1 4
            read 0 4 2 -> -1
            """);
        Script.sentence("Promise 11", "Else ints and LINK are copied: what both are stays", SCENE + """
            make 1 1 5 5 5
            merge 1 0 1
            entity 1 1 -> 1 2 3 0
            make 1 2 5 5 5
            merge 1 0 2
            entity 1 2 -> 3 4 -1 0
            make 1 5 5 5 5
            persist 1 5
            merge 1 0 5
            entity 1 5 -> 1 8 -1 0
            states 1 -> 1T 2T 5N
            merge 0 1 5
            states 0 -> 1T 2N 4P 5M 6R
            entity 0 5 -> 1 8 -1 0
            """);
        Script.sentence("Promise 11", "If both are MANAGED then: no VERSIONs are compared if one is not", """
            stored 4 7 8 -1
            get 0 4
            write 0 4 0 1
            commit 0
            make 1 4 5 5 -1
            merge 0 1 4
            entity 0 4 -> 5 5 -1 1
            write 0 4 0 6
            merge 1 0 4
            entity 1 4 -> 6 5 -1 0
            states 1 -> 4T
            """);
    }

    private static void mergeLoads() {
        Script.sentence("Promise 11", "If s has none or a PROXY, its row is LOADED: none", """
            stored 4 7 8 -1
            make 1 4 1 1 -1
            merge 0 1 4
            states 0 -> 4M
            entity 0 4 -> 1 1 -1 0
            read 0 4 5 -> 1
            counts -> 0 1 1 0 0
            """);
        Script.sentence("Promise 11", "If s has none or a PROXY, its row is LOADED: (by itself)", """
            stored 4 7 8 -1
            stored 5 7 8 -1
            mode 2 on
            refer 0 4
            refer 0 5
            make 1 4 7 8 -1
            merge 0 1 4
            states 0 -> 4M 5P
            read 0 4 5 -> 0
            counts -> 0 1 2 0 0
            """);
        Script.sentence("Promise 11", "if that can't be: STALE if the one of t is MANAGED", """
            stored 4 7 8 -1
            get 0 4
            get 1 4
            remove 1 4
            commit 1
            merge 1 0 4 -> STALE
            states 1 -> none
            refer 2 4
            merge 2 0 4 -> STALE
            states 2 -> 4P
            counts -> 2 2 1 0 1
            """);
        Script.sentence("Promise 11", "if that can't be: [..] MANAGED: a row of the SIGHT of t alone", """
            make 0 4 1 1 -1
            persist 0 4
            flush 0
            merge 1 0 4 -> STALE
            states 1 -> none
            """);
        Script.sentence("Promise 11", "else it is NEW, as that of t: OK", """
            make 0 0 MIN MAX 15
            make 0 15 3 4 0
            persist 0 15
            merge 1 0 0
            refer 1 15
            merge 1 0 15
            states 1 -> 0N 15N
            entity 1 0 -> MIN MAX 15 0
            entity 1 15 -> 3 4 0 0
            states 0 -> 0T 15N
            counts -> 2 0 0 0 0
            """);
    }

    private static void mergeStale() {
        String newer = """
            stored 4 7 8 -1
            get 0 4
            get 1 4
            write 1 4 0 1
            commit 1
            write 0 4 1 5
            """;
        Script.sentence("Promise 11", "STALE, without a change, if the VERSIONs of their SNAPSHOTs are not the same", newer + """
            ! merge 0 1 4 -> STALE
            ! merge 1 0 4 -> STALE
            """);
        Script.sentence("Promise 11", "VERSIONs of their SNAPSHOTs: also where their ints and LINKs are the same", """
            stored 4 7 8 -1
            get 0 4
            get 1 4
            write 1 4 0 1
            commit 1
            write 1 4 0 7
            commit 1
            ! merge 0 1 4 -> STALE
            """);
        Script.sentence("Promise 21", "merge: an entity that was LOADED for it stays so, also where it is STALE then", newer + """
            merge 2 0 4 -> STALE
            states 2 -> 4M
            entity 2 4 -> 1 8 -1 1
            read 2 4 5 -> 0
            count 1 -> 3
            rollback 2
            refer 2 4
            merge 2 0 4 -> STALE
            states 2 -> 4M
            entity 2 4 -> 1 8 -1 1
            """);
        Script.sentence("Promise 11", "if the VERSIONs [..] are not the same: by what each session has WRITTEN", """
            stored 4 7 8 -1
            get 0 4
            get 1 4
            write 0 4 0 1
            flush 0
            ! merge 1 0 4 -> STALE
            ! merge 0 1 4 -> STALE
            commit 0
            refresh 1 4
            merge 1 0 4
            """);
    }

    private static void refresh() {
        Script.sentence("Promise 12", "A MANAGED one [..] is taken from the STORE (a READ), without a HIT: it is MANAGED as there, OK", SCENE + """
            cache -> 4 5 6
            refresh 0 5
            entity 0 5 -> 7 8 -1 0
            read 0 5 5 -> 0
            counts -> 1 2 3 0 0
            """);
        Script.sentence("Promise 12", "or a PROXY is taken from the STORE: it alone", SCENE + """
            mode 2 on
            refer 0 3
            refresh 0 4
            states 0 -> 1T 2N 3P 4M 5M 6R
            entity 0 4 -> 7 8 -1 0
            counts -> 1 2 3 0 0
            """);
        Script.sentence("Promise 12", "as there: in the SIGHT", """
            stored 4 7 8 -1
            get 0 4
            get 1 4
            write 0 4 0 1
            flush 0
            write 0 4 0 2
            refresh 0 4
            entity 0 4 -> 1 8 -1 1
            refresh 1 4
            entity 1 4 -> 7 8 -1 0
            commit 0
            refresh 1 4
            entity 1 4 -> 1 8 -1 1
            """);
        Script.sentence("Promise 12", "NO for others", SCENE + """
            ! refresh 0 0 -> NO
            ! refresh 0 1 -> NO
            ! refresh 0 2 -> NO
            ! refresh 0 6 -> NO
            ! refresh 0 15 -> NO
            ! refresh 1 4 -> NO
            """);
    }

    private static void refreshLost() {
        Script.sentence("Promise 12", "LOST if the row is not there (then it stays as it is): a MANAGED one", """
            stored 4 7 8 -1
            get 0 4
            write 0 4 0 1
            get 1 4
            remove 1 4
            commit 1
            refresh 0 4 -> LOST
            states 0 -> 4M
            entity 0 4 -> 1 8 -1 0
            read 0 4 5 -> 1
            cache -> none
            counts -> 1 2 1 0 1
            """);
        Script.sentence("Promise 12", "LOST if the row is not there (then it stays as it is): a PROXY", """
            refer 0 0
            refer 0 15
            refresh 0 0 -> LOST
            refresh 0 15 -> LOST
            states 0 -> 0P 15P
            counts -> 2 0 0 0 0
            """);
    }

    private static void find() {
        Script.sentence("Promise 13", "how many rows of the SIGHT have v as an int (what 0, 1)", """
            stored 0 MIN MAX -1
            stored 15 MAX MIN -1
            stored 7 MIN MIN -1
            find 0 0 MIN -> 2
            found -> 0 7
            find 0 1 MIN -> 2
            found -> 7 15
            find 0 0 MAX -> 1
            found -> 15
            find 0 1 MAX -> 1
            found -> 0
            find 0 0 0 -> 0
            find 0 1 -2147483647 -> 0
            found -> none
            count 0 -> 6
            """);
        Script.sentence("Promise 13", "or LINK (2): -1, the least and the greatest row, and what no LINK can be", """
            stored 0 1 1 -1
            stored 15 1 1 0
            stored 4 1 1 15
            find 0 2 -1 -> 1
            found -> 0
            find 0 2 0 -> 1
            found -> 15
            find 0 2 15 -> 1
            found -> 4
            find 0 2 -2 -> 0
            find 0 2 16 -> 0
            find 0 2 MIN -> 0
            find 0 2 MAX -> 0
            find 0 2 4 -> 0
            """);
        Script.sentence("Promise 13", "Those of these for which there is none or a PROXY are MANAGED then", SCENE + """
            make 1 4 1 1 -1
            get 1 6
            write 1 6 1 1
            refer 1 9
            find 1 0 7 -> 3
            states 1 -> 4T 5M 6M 9P
            entity 1 4 -> 1 1 -1 0
            entity 1 5 -> 7 8 -1 0
            entity 1 6 -> 7 1 -1 1
            """);
        Script.sentence("Promise 13", "Those of these: no others", """
            stored 4 7 8 -1
            stored 5 9 9 -1
            refer 0 5
            refer 0 6
            find 0 0 7 -> 1
            states 0 -> 4M 5P 6P
            counts -> 1 0 2 0 0
            """);
    }

    private static void findFlushes() {
        Script.sentence("Promise 13", "FLUSHES (its error): each error, without a READ, and what was found stays", """
            stored 4 7 8 -1
            find 1 0 7 -> 1
            make 0 4 0 0 -1
            persist 0 4
            find 0 0 0 -> DUPLICATE
            rollback 0
            make 0 5 0 0 6
            persist 0 5
            find 0 0 0 -> FOREIGN
            rollback 0
            make 0 5 0 0 6
            persist 0 5
            make 0 6 0 0 -1
            find 0 0 0 -> UNSAVED
            rollback 0
            get 0 4
            write 0 4 0 1
            write 1 4 0 2
            flush 1
            find 0 0 1 -> BUSY
            rollback 0
            get 0 4
            write 0 4 0 1
            commit 1
            find 0 0 1 -> STALE
            find 0 0 1 -> BROKEN
            found -> 4
            count 0 -> 2
            """);
        Script.sentence("Promise 13", "FLUSHES [..], then it is a READ: what it has WRITTEN is found, and only by it", """
            make 0 4 5 5 -1
            persist 0 4
            find 0 0 5 -> 1
            statements -> I4
            locks -> 4:0
            find 1 0 5 -> 0
            statements -> none
            """);
    }

    private static void findRefused() {
        Script.sentenceForEach("Promise 13", "NO for another what", "$", List.of("-1", "3", "MIN", "MAX"), SCENE + """
            find 1 0 7 -> 3
            rollback 1
            ! find 0 $ 0 -> NO
            ! find 1 $ 7 -> NO
            """);
        Script.sentence("Promise 21", "find: NO (also for another what) [..] tested before the FLUSH", SCENE + """
            find 0 3 0 -> NO
            find 0 -1 0 -> NO
            find 3 0 0 -> NO
            find -1 0 0 -> NO
            states 0 -> 1T 2N 4P 5M 6R
            statements -> I6
            locks -> none
            """);
        Script.sentence("Promise 21", "find: NO [..] tested before the FLUSH: one that would fail", """
            make 0 4 1 1 15
            persist 0 4
            find 0 3 0 -> NO
            states 0 -> 4N
            find 0 2 0 -> FOREIGN
            states 0 -> BROKEN
            """);
        Script.sentence("Promise 21", "find: [..] BROKEN [..] tested before the FLUSH", """
            make 0 3 1 1 -1
            persist 0 3
            make 0 4 1 1 15
            persist 0 4
            flush 0 -> FOREIGN
            statements -> I3 I4
            find 0 0 0 -> BROKEN
            find 0 3 0 -> BROKEN
            statements -> I3 I4
            counts -> 0 0 2 0 0
            """);
    }

    private static void flush() {
        Script.sentence("Promise 15", "A FLUSH: OK: there is nothing to be written", SCENE + """
            flush 1
            statements -> none
            states 0 -> 1T 2N 4P 5M 6R
            flush 2
            """);
        Script.sentence("Promise 15", "A FLUSH: OK: what was WRITTEN is not written again", SCENE + """
            flush 0
            statements -> I2 U5 D6
            states 0 -> 1T 2M 4P 5M
            flush 0
            statements -> none
            locks -> 2:0 5:0 6:0
            row 2 -> none
            row 5 -> 7 8 -1 0
            row 6 -> 7 8 -1 0
            """);
        Script.sentence("Promise 15", "A FLUSH: OK or the error: BROKEN from then on", SCENE + """
            make 0 0 1 1 15
            persist 0 0
            flush 0 -> FOREIGN
            flush 0 -> BROKEN
            flush 0 -> BROKEN
            statements -> I0 I2 U5 D6
            """);
    }

    private static void commit() {
        Script.sentence("Promise 16", "then what the session has WRITTEN is COMMITTED: OK", SCENE + """
            flush 0
            commit 0
            statements -> none
            row 2 -> 3 4 -1 0
            row 5 -> 1 8 -1 1
            row 6 -> none
            locks -> none
            cache -> 2 4 5
            """);
        Script.sentence("Promise 16", "what the session has WRITTEN: nothing", """
            commit 0
            commit 2
            statements -> none
            counts -> 0 0 0 0 0
            cache -> none
            """);
        Script.sentence("Promise 16", "what the session has WRITTEN: no other one", """
            make 0 4 1 1 -1
            persist 0 4
            flush 0
            make 1 5 1 1 -1
            persist 1 5
            flush 1
            commit 2
            locks -> 4:0 5:1
            commit 1
            row 4 -> none
            row 5 -> 1 1 -1 0
            locks -> 4:0
            cache -> 5
            """);
        Script.sentence("Promise 16", "Entities stay", SCENE + """
            commit 0
            states 0 -> 1T 2M 4P 5M
            entity 0 1 -> 1 2 3 0
            entity 0 2 -> 3 4 -1 0
            entity 0 5 -> 1 8 -1 1
            """);
    }

    private static void commitRefused() {
        Script.sentence("Promise 16", "A FLUSH (its error): nothing is COMMITTED", SCENE + """
            flush 0
            make 0 0 1 1 15
            persist 0 0
            commit 0 -> FOREIGN
            row 0 -> none
            row 2 -> none
            row 5 -> 7 8 -1 0
            row 6 -> 7 8 -1 0
            locks -> none
            commit 0 -> BROKEN
            row 2 -> none
            """);
        Script.sentence("Promise 16", "A FLUSH (its error): UNSAVED, DUPLICATE, STALE and BUSY", """
            stored 4 7 8 -1
            get 0 4
            make 0 4 0 0 -1 -> NO
            make 0 5 0 0 6
            make 0 6 0 0 -1
            persist 0 5
            commit 0 -> UNSAVED
            rollback 0
            make 0 4 0 0 -1
            persist 0 4
            commit 0 -> DUPLICATE
            rollback 0
            get 0 4
            write 0 4 0 1
            get 1 4
            write 1 4 0 2
            flush 1
            commit 0 -> BUSY
            rollback 0
            get 0 4
            write 0 4 0 1
            commit 1
            commit 0 -> STALE
            row 4 -> 2 8 -1 1
            """);
    }

    private static void rollback() {
        Script.sentence("Promise 17", "What the session has WRITTEN since it committed last is as if it had not", SCENE + """
            commit 0
            write 0 5 0 3
            remove 0 2
            make 0 9 1 1 -1
            persist 0 9
            flush 0
            locks -> 2:0 5:0 9:0
            rollback 0
            locks -> none
            row 2 -> 3 4 -1 0
            row 5 -> 1 8 -1 1
            row 6 -> none
            row 9 -> none
            get 0 9 -> LOST
            get 0 5
            entity 0 5 -> 1 8 -1 1
            get 0 2
            """);
        Script.sentence("Promise 17", "it has no entities", SCENE + """
            get 1 5
            rollback 0
            states 0 -> none
            states 1 -> 5M
            commit 0
            statements -> none
            """);
        Script.sentence("Promise 17", "and is not BROKEN any more: OK", SCENE + """
            make 0 0 1 1 15
            persist 0 0
            flush 0 -> FOREIGN
            rollback 0
            states 0 -> none
            flush 0
            rollback 0
            """);
        Script.sentence("Promise 17", "What the session has WRITTEN since it committed last: nothing, and it has no entities", """
            rollback 0
            rollback 1
            rollback 2
            counts -> 0 0 0 0 0
            """);
        Script.sentence("Promise 17", "what the session has WRITTEN: nothing of another, and counts, statements and found stay", SCENE + """
            make 1 9 5 5 -1
            persist 1 9
            find 1 0 5 -> 1
            rollback 0
            rollback 2
            locks -> 9:1
            statements -> I9
            found -> 9
            counts -> 1 2 4 0 0
            commit 1
            row 9 -> 5 5 -1 0
            """);
    }
}
