import java.util.List;

/** Each promise of the document, 1 to 21, with a test of its own: what it says, in its order, and nothing of the others. */
public final class PromiseTest {
    private static final List<String> CALLS_FOR_A_ROW = List.of("make $s $k 1 2 -1", "persist $s $k", "get $s $k",
        "refer $s $k", "read $s $k 4", "write $s $k 0 1", "remove $s $k", "detach $s $k", "merge $s 1 $k", "refresh $s $k");
    private static final List<String> CALLS_FOR_A_SESSION = List.of("find $s 0 7", "flush $s", "commit $s");

    public static void main(String[] args) {
        promise1();
        promise2();
        promise3();
        promise4();
        promise5();
        promise6();
        promise7();
        promise8();
        promise9();
        promise10();
        promise11();
        promise12();
        promise13();
        promise14();
        promise15();
        promise16();
        promise17();
        promise18();
        promise19();
        promise20();
        promise21();
        Due.end();
    }

    private static void promise1() {
        holds(1, "a new object has no rows, no entities and an empty cache", """
            states 0 -> none
            states 1 -> none
            states 2 -> none
            cache -> none
            locks -> none
            counts -> 0 0 0 0 0
            statements -> none
            found -> none
            find 0 2 -1 -> 0
            find 0 0 0 -> 0
            """);
        holds(1, "UP is off: the link of a new one is not saved", """
            make 0 3 1 2 4
            make 0 4 1 2 -1
            persist 0 3
            states 0 -> 3N 4T
            flush 0 -> UNSAVED
            """);
        holds(1, "DOWN is off: what links to a removed one stays", """
            stored 3 1 2 -1
            stored 4 1 2 3
            get 0 3
            get 0 4
            remove 0 3
            states 0 -> 3R 4M
            """);
        holds(1, "BATCH is off: a touched proxy is loaded alone", """
            stored 3 1 2 -1
            stored 4 1 2 -1
            refer 0 3
            refer 0 4
            get 0 4
            states 0 -> 3P 4M
            """);
        for (String call : CALLS_FOR_A_ROW) {
            refusedForWrongNumbers(call);
            refusedWhileBroken(call);
        }
        for (String call : CALLS_FOR_A_SESSION) {
            refusedForWrongNumbers(call);
            refusedWhileBroken(call);
        }
        Script.sentenceForEach("Promise 1", "NO if there is no such t, then BROKEN", "$t", List.of("-1", "3", "MIN", "MAX"),
            broken(0) + "! merge 0 $t 4 -> NO\n! merge 1 $t 4 -> NO\n");
        holds(1, "BROKEN but for rollback, which answers NO for no session", broken(0) + """
            ! rollback -1 -> NO
            ! rollback 3 -> NO
            rollback 0
            get 0 4
            """);
    }

    private static void refusedForWrongNumbers(String call) {
        for (String s : List.of("-1", "3", "MIN", "MAX")) {
            holds(1, "NO if there is no such session", broken(0) + refused(call, s, "4", "NO"));
        }
        for (String key : call.contains("$k") ? List.of("-1", "16", "MIN", "MAX") : List.<String>of()) {
            holds(1, "NO if there is no such row, then BROKEN",
                broken(0) + refused(call, "0", key, "NO") + refused(call, "2", key, "NO"));
        }
    }

    private static void refusedWhileBroken(String call) {
        for (String s : List.of("0", "1", "2")) {
            holds(1, "BROKEN if s is", broken(Integer.parseInt(s)) + refused(call, s, "4", "BROKEN"));
        }
    }

    private static String refused(String call, String s, String key, String error) {
        return "! " + call.replace("$s", s).replace("$k", key) + " -> " + error + "\n";
    }

    /** Rows 4 and 5 are there; a session has inserted row 4 again, has an entity for row 5, too, and is BROKEN. */
    private static String broken(int s) {
        return """
            stored 4 7 8 -1
            stored 5 7 9 -1
            get $s 5
            make $s 4 1 2 -1
            persist $s 4
            commit $s -> DUPLICATE
            """.replace("$s", "" + s);
    }

    private static void promise2() {
        holds(2, "UP is on, and off again", """
            make 0 3 1 2 4
            make 0 4 1 2 -1
            make 0 5 1 2 6
            make 0 6 1 2 -1
            mode 0 on
            persist 0 3
            mode 0 off
            persist 0 5
            states 0 -> 3N 4N 5N 6T
            """);
        holds(2, "DOWN is on, and off again", """
            stored 3 1 2 -1
            stored 4 1 2 3
            stored 5 1 2 -1
            stored 6 1 2 5
            get 0 3
            get 0 5
            mode 1 on
            remove 0 3
            mode 1 off
            remove 0 5
            states 0 -> 3R 4R 5R
            """);
        holds(2, "BATCH is on, and off again", """
            stored 3 1 2 -1
            stored 4 1 2 -1
            stored 5 1 2 -1
            refer 0 3
            refer 0 4
            refer 1 3
            refer 1 4
            mode 2 on
            get 0 3
            mode 2 off
            get 1 3
            states 0 -> 3M 4M
            states 1 -> 3M 4P
            """);
        holds(2, "false for others", """
            ! mode -1 on -> false
            ! mode 3 on -> false
            ! mode 3 off -> false
            ! mode MIN on -> false
            ! mode MAX off -> false
            """);
    }

    private static void promise3() {
        holds(3, "a TRANSIENT entity with ints a, b and a link", """
            make 0 0 MIN MAX -1
            make 0 15 3 4 15
            make 1 0 5 6 0
            states 0 -> 0T 15T
            entity 0 0 -> MIN MAX -1 0
            entity 0 15 -> 3 4 15 0
            entity 1 0 -> 5 6 0 0
            commit 0
            statements -> none
            """);
        holds(3, "NO if there is one", """
            stored 5 1 2 -1
            make 0 3 1 2 -1
            refer 0 4
            get 0 5
            ! make 0 3 7 8 0 -> NO
            ! make 0 4 7 8 0 -> NO
            ! make 0 5 7 8 0 -> NO
            remove 0 5
            ! make 0 5 7 8 0 -> NO
            make 0 6 7 8 0
            persist 0 6
            ! make 0 6 1 2 0 -> NO
            """);
        holds(3, "NO if the link is not -1..15", """
            ! make 0 3 7 8 -2 -> NO
            ! make 0 3 7 8 16 -> NO
            ! make 0 3 7 8 MIN -> NO
            ! make 0 3 7 8 MAX -> NO
            """);
    }

    private static void promise4() {
        holds(4, "a TRANSIENT one is NEW", """
            make 0 3 1 2 4
            make 0 4 1 2 -1
            persist 0 3
            states 0 -> 3N 4T
            """);
        holds(4, "with UP on the one to which it links, and so on", """
            mode 0 on
            make 0 0 1 2 15
            make 0 15 1 2 7
            make 0 7 1 2 0
            make 0 8 1 2 0
            persist 0 15
            states 0 -> 0N 7N 8T 15N
            """);
        holds(4, "a REMOVED one is MANAGED again", """
            stored 4 7 8 -1
            get 0 4
            write 0 4 0 9
            remove 0 4
            persist 0 4
            states 0 -> 4M
            entity 0 4 -> 9 8 -1 0
            commit 0
            row 4 -> 9 8 -1 1
            """);
        holds(4, "for others nothing: OK", """
            stored 4 7 8 -1
            get 0 4
            refer 0 5
            make 0 6 1 2 7
            make 0 7 1 2 -1
            persist 0 6
            mode 0 on
            ! persist 0 4 -> OK
            ! persist 0 5 -> OK
            ! persist 0 6 -> OK
            """);
        holds(4, "NO if there is none", "stored 4 7 8 -1\n! persist 0 4 -> NO\n! persist 0 5 -> NO\n");
    }

    private static void promise5() {
        holds(5, "if there is none it is loaded, also if other proxies could be with it", """
            stored 4 7 8 -1
            stored 5 7 8 4
            mode 2 on
            refer 0 4
            get 0 5
            states 0 -> 4P 5M
            entity 0 5 -> 7 8 4 0
            counts -> 0 1 2 0 0
            """);
        holds(5, "if it is a PROXY, touched", """
            stored 4 7 8 -1
            stored 5 7 9 -1
            mode 2 on
            refer 0 4
            refer 0 5
            get 0 5
            states 0 -> 4M 5M
            """);
        holds(5, "touched: the two least other proxies with it, all that the cache has not are one READ together", """
            stored 2 7 8 -1
            stored 4 7 8 -1
            stored 5 7 8 -1
            uncached 2
            counts -> 1 0 3 1 0
            mode 2 on
            refer 0 1
            refer 0 2
            refer 0 4
            refer 0 5
            get 0 5
            states 0 -> 1P 2M 4P 5M
            cache -> 2 4 5
            counts -> 2 1 3 1 0
            """);
        holds(5, "OK for one that has its ints", """
            stored 4 7 8 -1
            get 0 4
            write 0 4 0 9
            make 0 5 1 2 -1
            make 0 6 1 2 -1
            persist 0 6
            ! get 0 4 -> OK
            ! get 0 5 -> OK
            ! get 0 6 -> OK
            """);
        holds(5, "LOST if that can't be, or it is REMOVED", """
            stored 4 7 8 -1
            get 0 4
            remove 0 4
            ! get 0 4 -> LOST
            refer 0 5
            get 0 5 -> LOST
            get 0 6 -> LOST
            states 0 -> 4R 5P
            """);
    }

    private static void promise6() {
        holds(6, "if there is none it is a PROXY then, and nothing is read", """
            stored 4 7 8 -1
            refer 0 4
            refer 0 5
            states 0 -> 4P 5P
            counts -> 0 0 1 0 0
            """);
        holds(6, "OK if there is one, which stays as it is", """
            stored 4 7 8 -1
            get 0 4
            make 0 5 1 2 -1
            make 0 6 1 2 -1
            persist 0 6
            refer 0 7
            ! refer 0 4 -> OK
            ! refer 0 5 -> OK
            ! refer 0 6 -> OK
            ! refer 0 7 -> OK
            remove 0 4
            ! refer 0 4 -> OK
            """);
    }

    private static void promise7() {
        holds(7, "ints, link and the version of the snapshot, 0 without one", """
            stored 4 7 8 4
            get 1 4
            write 1 4 1 9
            commit 1
            get 0 4
            write 0 4 0 MIN
            write 0 4 2 -1
            entity 0 4 -> MIN 9 -1 1
            make 0 5 1 2 3
            entity 0 5 -> 1 2 3 0
            persist 0 5
            entity 0 5 -> 1 2 3 0
            remove 0 4
            entity 0 4 -> MIN 9 -1 1
            """);
        List<String> cells = List.of("7", "8", "4", "0");
        for (int what = 0; what < cells.size(); what++) {
            holds(7, "a PROXY is touched before (LOST)", """
                stored 4 7 8 4
                refer 0 4
                refer 0 5
                read 0 5 $w -> LOST
                states 0 -> 4P 5P
                read 0 4 $w -> $a
                states 0 -> 4M 5P
                counts -> 1 1 1 0 0
                """.replace("$w", "" + what).replace("$a", cells.get(what)));
        }
        holds(7, "4: what it is, 5: 1 if it is DIRTY, else 0; neither touches a PROXY", """
            stored 4 7 8 4
            read 0 4 4 -> 0
            read 0 4 5 -> 0
            make 0 1 1 2 3
            read 0 1 4 -> 1
            read 0 1 5 -> 0
            persist 0 1
            read 0 1 4 -> 2
            read 0 1 5 -> 0
            refer 0 4
            read 0 4 4 -> 3
            read 0 4 5 -> 0
            get 0 4
            read 0 4 4 -> 4
            read 0 4 5 -> 0
            write 0 4 0 9
            read 0 4 5 -> 1
            write 0 4 0 7
            read 0 4 5 -> 0
            write 0 4 1 9
            read 0 4 5 -> 1
            write 0 4 1 8
            write 0 4 2 -1
            read 0 4 5 -> 1
            remove 0 4
            read 0 4 4 -> 5
            read 0 4 5 -> 0
            """);
        holds(7, "NO for others, and for 0..3 if there is none", """
            stored 4 7 8 4
            refer 0 4
            ! read 0 4 -1 -> NO
            ! read 0 4 6 -> NO
            ! read 0 4 MIN -> NO
            ! read 0 4 MAX -> NO
            ! read 1 4 0 -> NO
            ! read 1 4 1 -> NO
            ! read 1 4 2 -> NO
            ! read 1 4 3 -> NO
            ! read 1 4 6 -> NO
            """);
        Due.due(7, "read(0, 4, 0): an error + BASE", -10000000001L, new SessionDesk().read(0, 4, 0));
    }

    private static void promise8() {
        holds(8, "an int or the link becomes v", """
            stored 4 7 8 4
            get 0 4
            make 0 5 1 2 3
            make 0 6 1 2 3
            persist 0 6
            write 0 4 0 MIN
            write 0 5 1 MAX
            write 0 6 2 15
            write 0 4 2 -1
            entity 0 4 -> MIN 8 -1 0
            entity 0 5 -> 1 MAX 3 0
            entity 0 6 -> 1 2 15 0
            states 0 -> 4M 5T 6N
            """);
        holds(8, "NO for others, for a link that is not -1..15, if there is none, or it is REMOVED", """
            stored 4 7 8 4
            get 0 4
            ! write 0 4 -1 1 -> NO
            ! write 0 4 3 1 -> NO
            ! write 0 4 MIN 1 -> NO
            ! write 0 4 MAX 1 -> NO
            ! write 0 4 2 -2 -> NO
            ! write 0 4 2 16 -> NO
            ! write 0 4 2 MIN -> NO
            ! write 0 4 2 MAX -> NO
            ! write 1 4 0 1 -> NO
            remove 0 4
            ! write 0 4 0 1 -> NO
            """);
        holds(8, "a PROXY is touched before (LOST)", """
            stored 4 7 8 4
            refer 0 4
            refer 0 5
            write 0 5 0 1 -> LOST
            write 0 4 1 9
            states 0 -> 4M 5P
            entity 0 4 -> 7 9 4 0
            counts -> 1 1 1 0 0
            """);
    }

    private static void promise9() {
        holds(9, "a MANAGED one is REMOVED, a PROXY too, a NEW one is TRANSIENT, a REMOVED one stays so", """
            stored 3 7 8 -1
            stored 4 7 8 -1
            get 0 3
            refer 0 4
            make 0 5 1 2 -1
            persist 0 5
            remove 0 3
            remove 0 4
            remove 0 5
            remove 0 3
            states 0 -> 3R 4R 5T
            counts -> 0 2 2 0 0
            """);
        holds(9, "a PROXY after it was touched (LOST)", "refer 0 4\nremove 0 4 -> LOST\nstates 0 -> 4P\n");
        holds(9, "NO for others", "make 0 4 1 2 -1\n! remove 0 4 -> NO\n! remove 0 5 -> NO\n");
        holds(9, "with DOWN on all that link to it, and so on: each time one READ more", """
            stored 0 1 1 -1
            stored 1 1 1 0
            stored 2 1 1 0
            stored 3 1 1 2
            stored 4 1 1 4
            stored 5 1 1 -1
            get 0 0
            get 0 1
            refer 0 2
            get 0 5
            write 0 5 2 3
            make 0 6 1 1 5
            persist 0 6
            make 0 7 1 1 5
            make 0 8 1 1 6
            persist 0 8
            counts -> 0 3 6 0 0
            mode 1 on
            remove 0 0
            states 0 -> 0R 1R 2R 3R 5R 6T 7T 8N
            counts -> 5 3 6 0 0
            """);
        holds(9, "with DOWN on one that links to it no more stays", """
            stored 0 1 1 -1
            stored 1 1 1 0
            get 0 0
            get 0 1
            write 0 1 2 -1
            mode 1 on
            remove 0 0
            states 0 -> 0R 1M
            """);
    }

    private static void promise10() {
        holds(10, "there is none then", """
            stored 4 7 8 -1
            stored 5 7 8 -1
            get 0 4
            write 0 4 0 1
            refer 0 1
            make 0 2 1 2 -1
            make 0 3 1 2 -1
            persist 0 3
            get 0 5
            remove 0 5
            states 0 -> 1P 2T 3N 4M 5R
            detach 0 1
            detach 0 2
            detach 0 3
            detach 0 4
            detach 0 5
            states 0 -> none
            commit 0
            statements -> none
            """);
        holds(10, "NO if there was none", "stored 4 7 8 -1\n! detach 0 4 -> NO\n! detach 0 5 -> NO\n");
    }

    private static void promise11() {
        holds(11, "NO if s is t, or that is none, a PROXY or REMOVED, or the one of s is REMOVED", """
            stored 4 7 8 -1
            stored 5 7 8 -1
            get 0 4
            refer 0 1
            get 0 5
            remove 0 5
            get 1 5
            ! merge 0 0 4 -> NO
            ! merge 1 0 1 -> NO
            ! merge 1 0 2 -> NO
            ! merge 1 0 5 -> NO
            ! merge 0 1 5 -> NO
            """);
        holds(11, "if s has none or a PROXY, its row is loaded, by itself", """
            stored 3 7 8 -1
            stored 4 7 8 -1
            stored 5 7 8 -1
            get 1 4
            write 1 4 0 1
            make 1 5 2 3 15
            mode 2 on
            refer 0 3
            refer 0 4
            merge 0 1 4
            merge 0 1 5
            states 0 -> 3P 4M 5M
            entity 0 4 -> 1 8 -1 0
            entity 0 5 -> 2 3 15 0
            counts -> 0 3 3 0 0
            """);
        holds(11, "if that can't be: NEW, as that of t, or STALE if that is MANAGED", """
            stored 4 7 8 -1
            get 1 4
            get 2 4
            remove 2 4
            commit 2
            merge 0 1 4 -> STALE
            make 1 5 1 2 6
            make 1 6 3 4 -1
            persist 1 6
            refer 0 6
            merge 0 1 5
            merge 0 1 6
            states 0 -> 5N 6N
            entity 0 5 -> 1 2 6 0
            entity 0 6 -> 3 4 -1 0
            counts -> 3 2 1 0 1
            """);
        holds(11, "if both are MANAGED then: STALE, without a change, if the versions are not the same", """
            stored 4 7 8 -1
            get 0 4
            write 0 4 0 1
            get 1 4
            write 1 4 1 2
            commit 1
            merge 0 1 4 -> STALE
            merge 1 0 4 -> STALE
            entity 0 4 -> 1 8 -1 0
            entity 1 4 -> 7 2 -1 1
            """);
        holds(11, "else ints and link are copied", """
            stored 4 7 8 -1
            get 0 4
            get 1 4
            write 1 4 0 1
            write 1 4 1 2
            write 1 4 2 3
            merge 0 1 4
            entity 0 4 -> 1 2 3 0
            make 0 5 1 2 -1
            make 1 5 3 4 5
            persist 1 5
            merge 0 1 5
            entity 0 5 -> 3 4 5 0
            states 0 -> 4M 5T
            write 1 4 2 4
            commit 1 -> OK
            make 2 4 9 9 -1
            merge 2 1 4
            entity 2 4 -> 1 2 4 0
            """);
    }

    private static void promise12() {
        holds(12, "a MANAGED one or a PROXY is taken from the store, without a HIT", """
            stored 4 7 8 -1
            get 0 4
            write 0 4 0 1
            refer 0 5
            stored 5 3 4 -1
            get 1 4
            write 1 4 1 9
            commit 1
            refresh 0 4
            refresh 0 5
            states 0 -> 4M 5M
            entity 0 4 -> 7 9 -1 1
            entity 0 5 -> 3 4 -1 0
            read 0 4 5 -> 0
            counts -> 2 2 2 1 0
            """);
        holds(12, "LOST if the row is not there (then it stays as it is): a READ, too", """
            stored 4 7 8 -1
            get 0 4
            write 0 4 0 1
            refer 0 5
            get 1 4
            remove 1 4
            commit 1
            refresh 0 4 -> LOST
            refresh 0 5 -> LOST
            states 0 -> 4M 5P
            entity 0 4 -> 1 8 -1 0
            counts -> 2 2 1 0 1
            """);
        holds(12, "NO for others", """
            stored 4 7 8 -1
            get 0 4
            remove 0 4
            make 0 5 1 2 -1
            make 0 6 1 2 -1
            persist 0 6
            ! refresh 0 4 -> NO
            ! refresh 0 5 -> NO
            ! refresh 0 6 -> NO
            ! refresh 0 7 -> NO
            """);
    }

    private static void promise13() {
        holds(13, "it flushes, then it is a READ: how many rows of the sight have v as an int or link", """
            stored 3 7 8 -1
            stored 4 8 7 4
            make 0 5 7 7 4
            persist 0 5
            find 0 0 7 -> 2
            statements -> I5
            locks -> 5:0
            find 0 1 7 -> 2
            find 0 2 4 -> 2
            find 0 2 -1 -> 1
            find 0 0 9 -> 0
            find 1 0 7 -> 1
            counts -> 6 0 3 0 0
            """);
        holds(13, "its error", """
            stored 3 7 8 -1
            make 0 3 1 2 -1
            persist 0 3
            find 0 0 7 -> DUPLICATE
            get 0 4 -> BROKEN
            counts -> 0 0 1 0 0
            """);
        holds(13, "those of these for which there is none or a PROXY are MANAGED then", """
            stored 3 7 8 -1
            stored 4 7 8 -1
            stored 5 7 8 -1
            stored 6 1 8 -1
            refer 0 4
            refer 0 6
            make 0 5 1 2 -1
            find 0 0 7 -> 3
            states 0 -> 3M 4M 5T 6P
            entity 0 3 -> 7 8 -1 0
            entity 0 5 -> 1 2 -1 0
            """);
        holds(13, "NO for another what", """
            make 0 3 1 2 -1
            persist 0 3
            ! find 0 -1 0 -> NO
            ! find 0 3 0 -> NO
            ! find 0 MIN 0 -> NO
            ! find 0 MAX 0 -> NO
            """);
    }

    private static void promise14() {
        holds(14, "the k-th row, by numbers", """
            stored 15 7 1 -1
            stored 0 7 1 -1
            stored 9 7 2 -1
            found 0 -> NO
            find 0 0 7 -> 3
            found 0 -> 0
            found 1 -> 9
            found 2 -> 15
            found 3 -> NO
            found -1 -> NO
            found MIN -> NO
            found MAX -> NO
            """);
        holds(14, "of the latest find that was not an error", """
            stored 15 7 1 -1
            stored 0 7 1 -1
            stored 9 7 2 -1
            find 0 1 1 -> 2
            find 0 3 7 -> NO
            make 1 9 1 1 -1
            persist 1 9
            find 1 0 7 -> DUPLICATE
            find 1 0 7 -> BROKEN
            found -> 0 15
            find 2 1 2 -> 1
            found -> 9
            find 0 0 8 -> 0
            found -> none
            """);
    }

    private static void promise15() {
        holds(15, "a FLUSH: OK", """
            stored 4 7 8 -1
            stored 5 7 8 4
            get 0 4
            write 0 4 0 1
            get 0 5
            remove 0 5
            make 0 6 1 2 4
            persist 0 6
            flush 0
            statements -> I6 U4 D5
            states 0 -> 4M 6M
            entity 0 4 -> 1 8 -1 1
            locks -> 4:0 5:0 6:0
            cache -> none
            flush 0
            statements -> none
            """);
        flushOrders();
        flushLocked();
        flushErrors();
    }

    private static void flushOrders() {
        holds(15, "INSERTs: those left that link to none of those left, also by a link to row 0", """
            make 0 0 1 1 3
            make 0 2 1 1 0
            make 0 3 1 1 -1
            persist 0 0
            persist 0 2
            persist 0 3
            flush 0
            statements -> I3 I0 I2
            """);
        holds(15, "an order in which it can be written, and -1 for now in a ring", """
            make 0 1 0 0 2
            make 0 2 0 0 3
            make 0 3 0 0 1
            make 0 4 0 0 1
            make 0 5 0 0 -1
            persist 0 1
            persist 0 2
            persist 0 3
            persist 0 4
            persist 0 5
            commit 0
            statements -> I5 I1 I3 I2 I4 U1
            row 1 -> 0 0 2 1
            row 3 -> 0 0 1 0
            remove 0 1
            remove 0 2
            remove 0 3
            remove 0 4
            remove 0 5
            commit 0
            statements -> D4 D5 D1 D2 D3
            """);
        holds(15, "UPDATEs of all that were inserted with -1 for now, in the order in which they were inserted", """
            make 0 1 0 0 9
            make 0 9 0 0 1
            make 0 2 0 0 8
            make 0 8 0 0 2
            persist 0 1
            persist 0 2
            persist 0 8
            persist 0 9
            commit 0
            statements -> I1 I9 I2 I8 U1 U2
            row 1 -> 0 0 9 1
            row 2 -> 0 0 8 1
            """);
        holds(15, "DELETEs in the order of the links of the snapshots", """
            stored 4 7 8 -1
            stored 5 7 8 4
            get 0 4
            get 0 5
            write 0 4 2 5
            write 0 5 2 -1
            remove 0 4
            remove 0 5
            flush 0
            statements -> D5 D4
            """);
        holds(15, "with UP on what a NEW or DIRTY one links to is NEW then, and so on", """
            stored 4 7 8 -1
            get 0 4
            write 0 4 2 0
            make 0 0 1 2 9
            make 0 9 1 2 -1
            make 0 10 1 2 4
            mode 0 on
            flush 0
            statements -> I9 I0 U4
            states 0 -> 0M 4M 9M 10T
            """);
    }

    private static void flushLocked() {
        holds(15, "or the error: BUSY", """
            stored 4 7 8 -1
            get 0 4
            get 1 4
            write 0 4 0 1
            write 1 4 0 2
            flush 0
            flush 1 -> BUSY
            states 1 -> BROKEN
            commit 0
            row 4 -> 1 8 -1 1
            """);
        holds(15, "or the error: BUSY, of an INSERT and of a DELETE", """
            stored 4 7 8 -1
            get 0 4
            get 1 4
            remove 1 4
            write 0 4 0 1
            make 0 5 1 2 -1
            persist 0 5
            flush 0
            make 2 5 1 2 -1
            persist 2 5
            flush 2 -> BUSY
            flush 1 -> BUSY
            statements -> none
            """);
    }

    private static void flushErrors() {
        holds(15, "or the error: STALE", """
            stored 4 7 8 -1
            get 0 4
            get 1 4
            write 0 4 0 1
            write 1 4 0 2
            commit 0
            flush 1 -> STALE
            states 1 -> BROKEN
            """);
        holds(15, "or the error: UNSAVED", """
            make 0 1 0 0 2
            make 0 2 0 0 -1
            persist 0 1
            flush 0 -> UNSAVED
            states 0 -> BROKEN
            """);
        holds(15, "or the error: FOREIGN", """
            make 0 1 0 0 2
            persist 0 1
            flush 0 -> FOREIGN
            states 0 -> BROKEN
            locks -> none
            """);
        holds(15, "or the error: FOREIGN, by a link to row 0", "make 0 1 0 0 0\npersist 0 1\nflush 0 -> FOREIGN\n");
        holds(15, "or the error: DUPLICATE", """
            stored 1 0 0 -1
            make 0 1 0 0 -1
            persist 0 1
            flush 0 -> DUPLICATE
            states 0 -> BROKEN
            """);
    }

    private static void promise16() {
        holds(16, "a FLUSH, then what the session has written is committed; entities stay", """
            stored 4 7 8 -1
            get 0 4
            remove 0 4
            make 0 5 1 2 -1
            persist 0 5
            flush 0
            row 4 -> 7 8 -1 0
            row 5 -> none
            make 0 6 3 4 -1
            persist 0 6
            make 0 7 3 4 -1
            refer 0 8
            commit 0
            statements -> I6
            row 4 -> none
            row 5 -> 1 2 -1 0
            row 6 -> 3 4 -1 0
            locks -> none
            cache -> 5 6
            states 0 -> 5M 6M 7T 8P
            """);
        holds(16, "its error: nothing is committed", """
            stored 4 7 8 -1
            make 0 3 1 2 -1
            persist 0 3
            flush 0
            make 0 4 1 2 -1
            persist 0 4
            commit 0 -> DUPLICATE
            row 3 -> none
            row 4 -> 7 8 -1 0
            locks -> none
            """);
    }

    private static void promise17() {
        holds(17, "what the session has written since it committed last is as if it had not; it has no entities", """
            make 0 3 1 2 -1
            persist 0 3
            commit 0
            write 0 3 0 9
            make 0 4 1 2 -1
            persist 0 4
            flush 0
            make 0 5 1 2 -1
            refer 0 6
            make 1 5 1 2 -1
            rollback 0
            states 0 -> none
            states 1 -> 5T
            locks -> none
            row 3 -> 1 2 -1 0
            row 4 -> none
            get 0 4 -> LOST
            get 0 3
            entity 0 3 -> 1 2 -1 0
            """);
        holds(17, "and is not BROKEN any more", broken(1) + """
            rollback 1
            states 1 -> none
            get 1 4
            write 1 4 0 1
            commit 1
            row 4 -> 1 8 -1 1
            """);
    }

    private static void promise18() {
        holds(18, "0 INSERT, 1 UPDATE, 2 DELETE; its row; NO if there is none, or for others", """
            statement 0 0 -> NO
            stored 4 7 8 -1
            stored 5 7 8 -1
            get 0 4
            write 0 4 0 1
            get 0 5
            remove 0 5
            make 0 6 1 2 4
            persist 0 6
            flush 0
            statement 0 0 -> 0
            statement 0 1 -> 6
            statement 1 0 -> 1
            statement 1 1 -> 4
            statement 2 0 -> 2
            statement 2 1 -> 5
            statement 3 0 -> NO
            statement -1 0 -> NO
            statement MIN 1 -> NO
            statement MAX 1 -> NO
            statement 0 2 -> NO
            statement 0 -1 -> NO
            statement 0 MIN -> NO
            statement 0 MAX -> NO
            """);
        holds(18, "the latest FLUSH of any session, also if it failed later", """
            stored 4 7 8 -1
            make 0 3 1 2 -1
            persist 0 3
            make 0 4 1 2 -1
            persist 0 4
            flush 0 -> DUPLICATE
            statements -> I3
            flush 0 -> BROKEN
            find 1 3 0 -> NO
            statements -> I3
            find 1 0 0 -> 0
            statements -> none
            """);
    }

    private static void promise19() {
        holds(19, "of a committed row ints, link and version; if it is there, by whom it is locked, if the cache has it", """
            stored 4 MIN MAX 4
            get 2 4
            write 2 4 2 -1
            commit 2
            row 4 0 -> MIN
            row 4 1 -> MAX
            row 4 2 -> -1
            row 4 3 -> 1
            row 4 4 -> 1
            row 4 5 -> -1
            row 4 6 -> 1
            write 2 4 0 9
            make 2 5 1 2 4
            persist 2 5
            flush 2
            row 4 -> MIN MAX -1 1
            row 4 5 -> 2
            row 4 6 -> 0
            row 5 4 -> 0
            row 5 5 -> 2
            """);
        holds(19, "of a committed row, also while a ring is inserted again in its place", """
            stored 2 3 4 -1
            stored 1 1 2 2
            get 0 1
            get 0 2
            remove 0 1
            remove 0 2
            flush 0
            make 0 1 5 6 2
            make 0 2 7 8 1
            persist 0 1
            persist 0 2
            flush 0
            statements -> I1 I2 U1
            row 1 -> 1 2 2 0
            row 2 -> 3 4 -1 0
            entity 0 1 -> 5 6 2 1
            rollback 0
            row 1 -> 1 2 2 0
            """);
        holds(19, "NO + BASE if it is not there, and for others", """
            stored 4 7 8 4
            row 5 0 -> NO
            row 5 1 -> NO
            row 5 2 -> NO
            row 5 3 -> NO
            row 5 4 -> 0
            row 5 5 -> -1
            row 5 6 -> 0
            row 4 -1 -> NO
            row 4 7 -> NO
            row 4 MIN -> NO
            row 4 MAX -> NO
            """);
        Due.due(19, "row(5, 0): NO + BASE", -10000000001L, new SessionDesk().row(5, 0));
    }

    private static void promise20() {
        holds(20, "READs, HITs, INSERTs, UPDATEs, DELETEs; NO for others", """
            make 0 4 7 8 -1
            persist 0 4
            make 0 5 7 8 5
            persist 0 5
            commit 0
            counts -> 0 0 2 0 0
            get 1 4
            get 1 5
            counts -> 0 2 2 0 0
            get 1 6 -> LOST
            find 1 0 7 -> 2
            refresh 1 4
            counts -> 3 2 2 0 0
            write 1 4 0 1
            remove 1 5
            commit 1
            counts -> 3 2 2 1 1
            count -1 -> NO
            count 5 -> NO
            count MIN -> NO
            count MAX -> NO
            """);
        holds(20, "those done in FLUSHES that failed, too", """
            stored 4 7 8 -1
            stored 5 7 8 4
            get 0 4
            get 0 5
            remove 0 4
            write 0 5 0 1
            make 0 6 1 2 -1
            persist 0 6
            commit 0 -> FOREIGN
            statements -> I6 U5 D4
            counts -> 0 2 3 1 1
            """);
    }

    private static void promise21() {
        holds(21, "find: NO (also for another what) and BROKEN are tested before the FLUSH", """
            stored 4 7 8 -1
            make 0 4 1 2 -1
            persist 0 4
            ! find 3 0 7 -> NO
            ! find 0 3 7 -> NO
            flush 0 -> DUPLICATE
            make 1 5 1 2 -1
            persist 1 5
            flush 1
            ! find 0 0 7 -> BROKEN
            statements -> I5
            """);
        holds(21, "remove: the row of a PROXY that it touches comes into the cache, those that DOWN takes do not", """
            stored 4 7 8 -1
            stored 5 7 8 4
            stored 6 7 8 4
            uncached 4
            uncached 5
            uncached 6
            mode 1 on
            refer 0 4
            refer 0 5
            remove 0 4
            states 0 -> 4R 5R 6R
            cache -> 4
            """);
        holds(21, "merge: an entity that was loaded for it stays so, also where it is STALE then", """
            stored 4 7 8 -1
            stored 5 7 8 -1
            get 1 4
            get 1 5
            get 2 4
            write 2 4 0 1
            get 2 5
            write 2 5 0 1
            commit 2
            refer 0 5
            merge 0 1 4 -> STALE
            merge 0 1 5 -> STALE
            states 0 -> 4M 5M
            entity 0 4 -> 1 8 -1 1
            entity 0 5 -> 1 8 -1 1
            """);
        holds(21, "to load a row alone that is not there is a READ, too", """
            get 0 4 -> LOST
            counts -> 1 0 0 0 0
            make 1 4 1 2 -1
            merge 0 1 4
            counts -> 2 0 0 0 0
            """);
        Script.sentenceForEach("Promise 21", "row: NO + BASE for every what if key is not 0..15", "$k",
            List.of("-1", "16", "MIN", "MAX"), """
            stored 0 7 8 -1
            stored 15 7 8 -1
            row $k 0 -> NO
            row $k 1 -> NO
            row $k 2 -> NO
            row $k 3 -> NO
            row $k 4 -> NO
            row $k 5 -> NO
            row $k 6 -> NO
            row $k 7 -> NO
            row $k -1 -> NO
            """);
    }

    private static void holds(int promise, String what, String run) {
        Script.sentence("Promise " + promise, what, run);
    }
}
