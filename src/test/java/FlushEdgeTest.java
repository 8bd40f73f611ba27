import java.util.List;

/** The boundary cases of the term FLUSH: its STATEMENTS, their orders and errors. Each sentence has its own runs. */
public final class FlushEdgeTest {
    public static void main(String[] args) {
        unsaved();
        up();
        insertOrder();
        insertsInARing();
        inserted();
        duplicate();
        updates();
        updatesOfRings();
        stale();
        staleByTheVersion();
        deletes();
        deleteRings();
        staleDeletes();
        busy();
        busyBeforeAnythingElse();
        foreign();
        notForeign();
        errorsInOrder();
        settled();
        broken();
        Due.end();
    }

    private static void unsaved() {
        Script.sentence("FLUSH", "if a NEW [..] one LINKs to a TRANSIENT one: [..] else UNSAVED", """
            make 0 4 1 1 0
            make 0 0 2 2 -1
            persist 0 4
            flush 0 -> UNSAVED
            statements -> none
            counts -> 0 0 0 0 0
            read 0 4 4 -> BROKEN
            """);
        Script.sentence("FLUSH", "if a [..] DIRTY one LINKs to a TRANSIENT one: [..] else UNSAVED", """
            stored 4 7 8 -1
            get 0 4
            write 0 4 2 15
            make 0 15 2 2 -1
            flush 0 -> UNSAVED
            statements -> none
            row 4 -> 7 8 -1 0
            """);
        Script.sentence("FLUSH", "if a [..] DIRTY one LINKs to a TRANSIENT one: one that is DIRTY by an int and LINKed to it before", """
            stored 5 0 0 -1
            stored 4 7 8 5
            get 0 4
            write 0 4 1 9
            make 0 5 2 2 -1
            flush 0 -> UNSAVED
            """);
        Script.sentence("FLUSH", "a NEW or DIRTY one: no other one that LINKs to a TRANSIENT one is UNSAVED", """
            stored 5 0 0 -1
            stored 4 7 8 5
            stored 6 7 8 -1
            get 0 4
            get 0 6
            make 0 5 2 2 -1
            make 0 7 2 2 5
            write 0 6 2 5
            remove 0 6
            refer 0 8
            flush 0
            statements -> D6
            states 0 -> 4M 5T 7T 8P
            """);
        Script.sentence("FLUSH", "LINKs to a TRANSIENT one: of the same session", """
            stored 5 0 0 -1
            make 1 5 2 2 -1
            make 0 4 1 1 5
            persist 0 4
            flush 0
            statements -> I4
            """);
        Script.sentence("FLUSH", "LINKs to a TRANSIENT one: a NEW one that LINKs to itself, or to none, does not", """
            make 0 15 1 1 15
            make 0 0 1 1 -1
            persist 0 15
            persist 0 0
            flush 0
            statements -> I0 I15
            """);
        Script.sentence("FLUSH", "else UNSAVED: what was TRANSIENT stays so, and what was NEW", """
            make 0 4 1 1 5
            make 0 5 2 2 -1
            persist 0 4
            flush 0 -> UNSAVED
            merge 1 0 4
            merge 1 0 5
            states 1 -> 4N 5N
            commit 1
            statements -> I5 I4
            """);
    }

    private static void up() {
        StringBuilder chain = new StringBuilder();
        for (int key = 0; key < 16; key++) {
            chain.append("make 0 ").append(key).append(" 0 0 ").append(key == 0 ? 15 : key == 1 ? -1 : key - 1).append("\n");
        }
        Script.sentence("FLUSH", "with UP on that is NEW then, and so on: a chain of all sixteen", chain + """
            persist 0 0
            states 0 -> 0N 1T 2T 3T 4T 5T 6T 7T 8T 9T 10T 11T 12T 13T 14T 15T
            mode 0 on
            flush 0
            statements -> I1 I2 I3 I4 I5 I6 I7 I8 I9 I10 I11 I12 I13 I14 I15 I0
            """);
        Script.sentence("FLUSH", "with UP on that is NEW then, and so on: a ring, and none that only LINKs to it", """
            stored 4 7 8 -1
            get 0 4
            make 0 0 0 0 15
            make 0 15 0 0 0
            make 0 7 0 0 15
            write 0 4 2 0
            mode 0 on
            flush 0
            statements -> I0 I15 U4 U0
            states 0 -> 0M 4M 7T 15M
            """);
        Script.sentence("FLUSH", "and so on: it ends at one that is not TRANSIENT", """
            stored 7 7 8 -1
            stored 6 7 8 7
            get 0 6
            make 0 7 0 0 -1
            make 0 5 0 0 6
            make 0 4 0 0 5
            persist 0 4
            mode 0 on
            flush 0
            statements -> I5 I4
            states 0 -> 4M 5M 6M 7T
            """);
        Script.sentence("FLUSH", "with UP on that is NEW then: two of them", """
            make 0 4 0 0 5
            make 0 5 0 0 -1
            make 0 2 0 0 3
            make 0 3 0 0 -1
            persist 0 4
            persist 0 2
            mode 0 on
            flush 0
            statements -> I3 I2 I5 I4
            """);
    }

    private static void insertOrder() {
        Script.sentence("FLUSH", "INSERTs of all NEW ones: there is none", """
            make 0 4 0 0 -1
            refer 0 5
            flush 0
            statements -> none
            counts -> 0 0 0 0 0
            states 0 -> 4T 5P
            """);
        Script.sentence("FLUSH", "each time of those left that LINK to none of those left [..] the least", """
            make 0 0 0 0 15
            make 0 1 0 0 0
            make 0 2 0 0 -1
            make 0 15 0 0 2
            persist 0 15
            persist 0 2
            persist 0 1
            persist 0 0
            flush 0
            statements -> I2 I15 I0 I1
            """);
        Script.sentence("FLUSH", "(but themselves)", """
            make 0 0 0 0 0
            make 0 1 0 0 2
            make 0 2 0 0 2
            persist 0 0
            persist 0 1
            persist 0 2
            commit 0
            statements -> I0 I2 I1
            row 0 -> 0 0 0 0
            row 2 -> 0 0 2 0
            """);
        Script.sentence("FLUSH", "that LINK to none of those left: a LINK to a row that is no NEW one does not count", """
            stored 15 0 0 -1
            make 0 0 0 0 15
            make 0 1 0 0 -1
            persist 0 0
            persist 0 1
            flush 0
            statements -> I0 I1
            """);
    }

    private static void insertsInARing() {
        Script.sentence("FLUSH", "if there is none, the least of all, with LINK -1 for now", """
            make 0 0 0 0 15
            make 0 15 0 0 0
            make 0 3 0 0 4
            make 0 4 0 0 3
            persist 0 0
            persist 0 15
            persist 0 3
            persist 0 4
            commit 0
            statements -> I0 I15 I3 I4 U0 U3
            row 0 -> 0 0 15 1
            row 15 -> 0 0 0 0
            row 3 -> 0 0 4 1
            row 4 -> 0 0 3 0
            """);
        Script.sentence("FLUSH", "the least of all: also one that only LINKs into a ring", """
            make 0 1 0 0 9
            make 0 8 0 0 9
            make 0 9 0 0 8
            persist 0 1
            persist 0 8
            persist 0 9
            flush 0
            statements -> I1 I8 I9 U1 U8
            entity 0 1 -> 0 0 9 1
            entity 0 8 -> 0 0 9 1
            entity 0 9 -> 0 0 8 0
            """);
    }

    private static void inserted() {
        Script.sentence("FLUSH", "It gets VERSION 0", """
            make 0 4 MIN MAX -1
            persist 0 4
            flush 0
            entity 0 4 -> MIN MAX -1 0
            commit 0
            row 4 -> MIN MAX -1 0
            """);
        Script.sentence("FLUSH", "It gets VERSION 0: also one whose row had another before", """
            stored 4 7 8 -1
            get 0 4
            write 0 4 0 1
            commit 0
            remove 0 4
            flush 0
            make 0 4 2 2 -1
            persist 0 4
            commit 0
            statements -> I4
            row 4 -> 2 2 -1 0
            """);
    }

    private static void duplicate() {
        Script.sentence("FLUSH", "DUPLICATE if the row is there in the SIGHT: COMMITTED", """
            stored 0 7 8 -1
            make 0 0 1 1 -1
            persist 0 0
            flush 0 -> DUPLICATE
            statements -> none
            counts -> 0 0 1 0 0
            row 0 -> 7 8 -1 0
            """);
        Script.sentence("FLUSH", "DUPLICATE if the row is there in the SIGHT: WRITTEN by the session alone", """
            make 0 15 1 1 -1
            persist 0 15
            flush 0
            detach 0 15
            make 0 15 2 2 -1
            persist 0 15
            flush 0 -> DUPLICATE
            counts -> 0 0 1 0 0
            locks -> none
            row 15 -> none
            """);
        Script.sentence("FLUSH", "DUPLICATE if the row is there in the SIGHT: one that the session deleted is not", """
            stored 4 7 8 -1
            get 0 4
            remove 0 4
            flush 0
            make 0 4 1 1 -1
            persist 0 4
            flush 0
            statements -> I4
            row 4 -> 7 8 -1 0
            """);
        Script.sentence("FLUSH", "DUPLICATE: the DELETEs come too late for it", """
            stored 4 7 8 -1
            stored 5 7 8 -1
            get 0 5
            remove 0 5
            make 0 4 1 1 -1
            persist 0 4
            flush 0 -> DUPLICATE
            statements -> none
            row 5 -> 7 8 -1 0
            """);
        Script.sentence("FLUSH", "DUPLICATE: of an INSERT with LINK -1 for now", """
            stored 1 7 8 -1
            make 0 1 0 0 2
            make 0 2 0 0 1
            persist 0 1
            persist 0 2
            flush 0 -> DUPLICATE
            statements -> none
            """);
    }

    private static void updates() {
        Script.sentence("FLUSH", "UPDATEs of all that were DIRTY, the least first", """
            stored 0 7 8 -1
            stored 9 7 8 -1
            stored 15 7 8 -1
            get 0 15
            get 0 9
            get 0 0
            write 0 15 0 1
            write 0 0 1 1
            flush 0
            statements -> U0 U15
            entity 0 0 -> 7 1 -1 1
            entity 0 9 -> 7 8 -1 0
            entity 0 15 -> 1 8 -1 1
            """);
        Script.sentence("FLUSH", "They get 1 more than the VERSION", """
            stored 4 7 8 -1
            get 0 4
            write 0 4 0 1
            flush 0
            write 0 4 0 2
            flush 0
            write 0 4 0 3
            commit 0
            row 4 -> 3 8 -1 3
            read 0 4 3 -> 3
            """);
        Script.sentence("FLUSH", "UPDATEs of all that were DIRTY: the least and the greatest ints", """
            stored 4 MAX MIN -1
            get 0 4
            write 0 4 0 MIN
            write 0 4 1 MAX
            commit 0
            row 4 -> MIN MAX -1 1
            """);
    }

    private static void updatesOfRings() {
        Script.sentence("FLUSH", "then of those inserted with LINK -1 for now, in the order in which they were inserted, with their LINKs", """
            stored 15 7 8 -1
            get 0 15
            write 0 15 0 1
            make 0 9 0 0 5
            make 0 5 0 0 9
            make 0 1 0 0 0
            make 0 0 0 0 1
            persist 0 9
            persist 0 5
            persist 0 1
            persist 0 0
            commit 0
            statements -> I0 I1 I5 I9 U15 U0 U5
            row 0 -> 0 0 1 1
            row 1 -> 0 0 0 0
            row 5 -> 0 0 9 1
            row 9 -> 0 0 5 0
            """);
        Script.sentence("FLUSH", "in the order in which they were inserted: three of them", """
            make 0 3 0 0 4
            make 0 4 0 0 3
            make 0 1 0 0 2
            make 0 2 0 0 4
            persist 0 3
            persist 0 4
            persist 0 1
            persist 0 2
            flush 0
            statements -> I1 I2 I3 I4 U1 U2 U3
            """);
        Script.sentence("FLUSH", "1 more than the VERSION: of those that were inserted, too", """
            make 0 3 0 0 4
            make 0 4 0 0 3
            persist 0 3
            persist 0 4
            flush 0
            read 0 3 3 -> 1
            read 0 4 3 -> 0
            read 0 3 5 -> 0
            write 0 3 0 1
            write 0 4 0 1
            commit 0
            statements -> U3 U4
            row 3 -> 1 0 4 2
            row 4 -> 1 0 3 1
            """);
    }

    private static void stale() {
        Script.sentence("FLUSH", "STALE if the row is not there", """
            stored 4 7 8 -1
            get 0 4
            get 1 4
            remove 1 4
            commit 1
            write 0 4 0 1
            flush 0 -> STALE
            statements -> none
            counts -> 0 2 1 0 1
            row 4 -> none
            """);
        Script.sentence("FLUSH", "STALE if the row is not there: one that is not DIRTY is not looked at", """
            stored 4 7 8 -1
            get 0 4
            get 1 4
            remove 1 4
            commit 1
            flush 0
            commit 0
            states 0 -> 4M
            """);
    }

    private static void staleByTheVersion() {
        Script.sentence("FLUSH", "or its VERSION is not that of the SNAPSHOT: it is greater", """
            stored 4 7 8 -1
            get 0 4
            get 1 4
            write 1 4 0 1
            commit 1
            write 0 4 0 2
            flush 0 -> STALE
            counts -> 0 2 1 1 0
            row 4 -> 1 8 -1 1
            """);
        Script.sentence("FLUSH", "or its VERSION is not that of the SNAPSHOT: it is less", """
            stored 4 7 8 -1
            get 1 4
            write 1 4 0 1
            commit 1
            get 0 4
            read 0 4 3 -> 1
            remove 1 4
            commit 1
            stored 4 1 8 -1
            write 0 4 0 2
            flush 0 -> STALE
            row 4 -> 1 8 -1 0
            """);
        Script.sentence("FLUSH", "or its VERSION is not that of the SNAPSHOT: another row with the same one is as good", """
            stored 4 7 8 -1
            get 0 4
            get 1 4
            remove 1 4
            commit 1
            stored 4 9 9 -1
            write 0 4 0 2
            commit 0
            row 4 -> 2 8 -1 1
            """);
        Script.sentence("FLUSH", "STALE: those before it were done, those after it not", """
            stored 3 7 8 -1
            stored 4 7 8 -1
            stored 5 7 8 -1
            get 0 3
            get 0 4
            get 0 5
            write 0 3 0 1
            write 0 4 0 1
            write 0 5 0 1
            get 1 4
            write 1 4 0 2
            commit 1
            flush 0 -> STALE
            statements -> U3
            counts -> 0 4 3 2 0
            row 3 -> 7 8 -1 0
            locks -> none
            """);
    }

    private static void deletes() {
        Script.sentence("FLUSH", "DELETEs of all REMOVED ones: each time of those left to which none of those left LINKs [..] the least", """
            stored 0 0 0 -1
            stored 1 0 0 0
            stored 2 0 0 -1
            stored 15 0 0 1
            get 0 0
            get 0 1
            get 0 2
            get 0 15
            remove 0 0
            remove 0 1
            remove 0 2
            remove 0 15
            flush 0
            statements -> D2 D15 D1 D0
            states 0 -> none
            """);
        Script.sentence("FLUSH", "LINKs by its SNAPSHOT", """
            stored 1 0 0 -1
            stored 2 0 0 1
            get 0 1
            get 0 2
            write 0 1 2 2
            write 0 2 2 -1
            remove 0 1
            remove 0 2
            flush 0
            statements -> D2 D1
            """);
        Script.sentence("FLUSH", "(but itself)", """
            stored 1 0 0 1
            stored 2 0 0 1
            stored 3 0 0 -1
            get 0 1
            get 0 2
            get 0 3
            remove 0 1
            remove 0 2
            remove 0 3
            commit 0
            statements -> D2 D1 D3
            row 1 -> none
            """);
        Script.sentence("FLUSH", "none of those left LINKs: those that are not REMOVED don't count", """
            stored 1 0 0 -1
            stored 2 0 0 1
            stored 3 0 0 -1
            get 0 1
            get 0 2
            get 0 3
            write 0 2 2 -1
            remove 0 1
            remove 0 3
            flush 0
            statements -> U2 D1 D3
            """);
    }

    private static void deleteRings() {
        Script.sentence("FLUSH", "if there is none, the least of all", """
            make 0 0 0 0 15
            make 0 15 0 0 0
            make 0 7 0 0 9
            make 0 9 0 0 7
            persist 0 0
            persist 0 15
            persist 0 7
            persist 0 9
            commit 0
            remove 0 15
            remove 0 0
            remove 0 9
            remove 0 7
            flush 0
            statements -> D0 D15 D7 D9
            """);
        Script.sentence("FLUSH", "if there is none: one that LINKs into a ring comes before it", """
            make 0 3 0 0 5
            make 0 5 0 0 3
            make 0 9 0 0 3
            persist 0 3
            persist 0 5
            persist 0 9
            commit 0
            remove 0 3
            remove 0 5
            remove 0 9
            flush 0
            statements -> D9 D3 D5
            """);
    }

    private static void staleDeletes() {
        Script.sentence("FLUSH", "STALE likewise: the row is not there", """
            stored 4 7 8 -1
            get 0 4
            get 1 4
            remove 0 4
            remove 1 4
            commit 1
            flush 0 -> STALE
            statements -> none
            counts -> 0 2 1 0 1
            """);
        Script.sentence("FLUSH", "STALE likewise: its VERSION is greater", """
            stored 4 7 8 -1
            get 0 4
            get 1 4
            remove 0 4
            write 1 4 0 1
            commit 1
            flush 0 -> STALE
            counts -> 0 2 1 1 0
            row 4 -> 1 8 -1 1
            """);
        Script.sentence("FLUSH", "STALE likewise: its VERSION is less", """
            stored 4 7 8 -1
            get 1 4
            write 1 4 0 1
            commit 1
            get 0 4
            remove 0 4
            remove 1 4
            commit 1
            stored 4 1 1 -1
            flush 0 -> STALE
            row 4 -> 1 1 -1 0
            """);
        Script.sentence("FLUSH", "STALE likewise: its VERSION is the same", """
            stored 4 7 8 -1
            get 0 4
            get 1 4
            remove 0 4
            remove 1 4
            commit 1
            stored 4 1 1 -1
            commit 0
            statements -> D4
            row 4 -> none
            """);
    }

    private static void busy() {
        for (List<Integer> pair : List.of(List.of(0, 1), List.of(1, 2), List.of(2, 0))) {
            String run = """
                stored 4 7 8 -1
                stored 5 7 8 -1
                get $s 4
                get $s 5
                get $t 4
                get $t 5
                write $s 4 0 1
                remove $s 5
                make $s 6 1 1 -1
                persist $s 6
                flush $s
                locks -> 4:$s 5:$s 6:$s
                """.replace("$s", "" + pair.get(0)).replace("$t", "" + pair.get(1));
            for (String change : List.of("write $t 4 0 2", "remove $t 4", "write $t 5 0 2", "remove $t 5",
                "make $t 6 2 2 -1\npersist $t 6")) {
                Script.sentence("FLUSH", "a STATEMENT finds its row LOCKED by another session: BUSY", run
                    + change.replace("$t", "" + pair.get(1)) + """

                    flush $t -> BUSY
                    statements -> none
                    counts -> 0 4 3 1 1
                    locks -> 4:$s 5:$s 6:$s
                    commit $s
                    row 4 -> 1 8 -1 1
                    row 5 -> none
                    row 6 -> 1 1 -1 0
                    """.replace("$s", "" + pair.get(0)).replace("$t", "" + pair.get(1)));
            }
        }
        Script.sentence("FLUSH", "LOCKED by another session: not by itself, and not any more", """
            stored 4 7 8 -1
            get 0 4
            get 1 4
            write 0 4 0 1
            flush 0
            write 0 4 0 2
            flush 0
            rollback 0
            write 1 4 0 3
            flush 1
            locks -> 4:1
            """);
        Script.sentence("FLUSH", "a STATEMENT finds its row LOCKED: one that has none to do there does not", """
            stored 4 7 8 -1
            get 0 4
            get 1 4
            write 0 4 0 1
            flush 0
            flush 1
            find 1 0 7 -> 1
            commit 1
            """);
    }

    private static void busyBeforeAnythingElse() {
        Script.sentence("FLUSH", "Before anything else [..] BUSY: it would be DUPLICATE", """
            stored 4 7 8 -1
            get 0 4
            write 0 4 0 1
            flush 0
            make 1 4 1 1 -1
            persist 1 4
            flush 1 -> BUSY
            """);
        Script.sentence("FLUSH", "Before anything else [..] BUSY: it would be STALE by the VERSION", """
            stored 4 7 8 -1
            get 0 4
            get 1 4
            get 2 4
            write 0 4 0 1
            commit 0
            write 0 4 0 2
            flush 0
            write 1 4 0 3
            flush 1 -> BUSY
            remove 2 4
            flush 2 -> BUSY
            """);
        Script.sentence("FLUSH", "Before anything else [..] BUSY: it would be STALE, as the row is not there", """
            stored 4 7 8 -1
            get 1 4
            get 2 4
            get 0 4
            remove 0 4
            commit 0
            make 0 4 1 1 -1
            persist 0 4
            flush 0
            row 4 -> none
            write 1 4 0 3
            flush 1 -> BUSY
            remove 2 4
            flush 2 -> BUSY
            """);
        Script.sentence("FLUSH", "BUSY: those before it were done, and count", """
            stored 4 7 8 -1
            get 0 4
            get 1 4
            write 0 4 0 1
            flush 0
            make 1 5 1 1 -1
            persist 1 5
            write 1 4 0 2
            flush 1 -> BUSY
            statements -> I5
            counts -> 0 2 2 1 0
            locks -> 4:0
            """);
    }

    private static void foreign() {
        for (String link : List.of("0", "15")) {
            Script.sentence("FLUSH", "FOREIGN if in the SIGHT a row that is there LINKs to one that is not: an INSERT", """
                make 0 4 1 1 $link
                persist 0 4
                flush 0 -> FOREIGN
                statements -> I4
                counts -> 0 0 1 0 0
                locks -> none
                """.replace("$link", link));
            Script.sentence("FLUSH", "FOREIGN if in the SIGHT a row that is there LINKs to one that is not: an UPDATE", """
                stored 4 7 8 -1
                get 0 4
                write 0 4 2 $link
                flush 0 -> FOREIGN
                statements -> U4
                row 4 -> 7 8 -1 0
                """.replace("$link", link));
            Script.sentence("FLUSH", "FOREIGN if in the SIGHT a row that is there LINKs to one that is not: a DELETE", """
                stored $link 7 8 -1
                stored 4 7 8 $link
                get 0 $link
                remove 0 $link
                flush 0 -> FOREIGN
                statements -> D$link
                row $link -> 7 8 -1 0
                """.replace("$link", link));
        }
        Script.sentence("FLUSH", "FOREIGN if in the SIGHT: rows 0 and 15 LINK", """
            stored 4 7 8 -1
            stored 0 7 8 4
            stored 15 7 8 -1
            get 0 4
            remove 0 4
            flush 0 -> FOREIGN
            get 1 0
            write 1 0 2 -1
            get 1 15
            write 1 15 2 4
            commit 1
            get 1 4
            remove 1 4
            flush 1 -> FOREIGN
            """);
        Script.sentence("FLUSH", "in the SIGHT: a row that another session has WRITTEN alone is not there", """
            make 1 5 1 1 -1
            persist 1 5
            flush 1
            make 0 4 1 1 5
            persist 0 4
            flush 0 -> FOREIGN
            commit 1
            rollback 0
            make 0 4 1 1 5
            persist 0 4
            flush 0
            """);
        Script.sentence("FLUSH", "After all of them: FOREIGN, also where there was none", """
            stored 4 7 8 -1
            get 0 4
            remove 0 4
            flush 0
            make 1 5 1 1 4
            persist 1 5
            commit 1
            flush 0 -> FOREIGN
            statements -> none
            locks -> none
            row 4 -> 7 8 -1 0
            """);
    }

    private static void notForeign() {
        Script.sentence("FLUSH", "FOREIGN if [..] LINKs to one that is not: none for LINK -1, for itself, or for one of the same FLUSH", """
            make 0 0 1 1 -1
            make 0 4 1 1 4
            make 0 5 1 1 15
            make 0 15 1 1 0
            persist 0 0
            persist 0 4
            persist 0 5
            persist 0 15
            flush 0
            statements -> I0 I4 I15 I5
            """);
        Script.sentence("FLUSH", "After all of them: only then", """
            stored 4 7 8 -1
            stored 5 7 8 4
            get 0 4
            get 0 5
            remove 0 4
            write 0 5 2 -1
            flush 0
            statements -> U5 D4
            """);
        Script.sentence("FLUSH", "in the SIGHT: what another session deleted, but did not commit, is there", """
            stored 5 7 8 -1
            get 1 5
            remove 1 5
            flush 1
            make 0 4 1 1 5
            persist 0 4
            flush 0
            commit 0
            commit 1 -> FOREIGN
            row 4 -> 1 1 5 0
            row 5 -> 7 8 -1 0
            """);
        Script.sentence("FLUSH", "in the SIGHT a row that is there: the LINKs of entities that are not written don't count", """
            stored 4 7 8 -1
            make 0 5 1 1 15
            refer 0 6
            get 0 4
            write 0 4 2 15
            remove 0 4
            flush 0
            statements -> D4
            """);
    }

    private static void errorsInOrder() {
        String rows = """
            stored 2 7 8 -1
            stored 3 7 8 -1
            stored 4 7 8 -1
            get 0 3
            get 0 4
            get 1 3
            write 1 3 0 1
            commit 1
            get 1 4
            write 1 4 0 1
            flush 1
            """;
        Script.sentence("FLUSH", "first, [..] UNSAVED: before DUPLICATE, STALE and BUSY", rows + """
            make 0 2 1 1 -1
            persist 0 2
            write 0 3 0 2
            write 0 4 0 2
            make 0 9 1 1 10
            make 0 10 1 1 -1
            persist 0 9
            flush 0 -> UNSAVED
            statements -> none
            """);
        Script.sentence("FLUSH", "Then the STATEMENTS, one after the other: DUPLICATE of an INSERT before STALE and BUSY", rows + """
            make 0 2 1 1 -1
            persist 0 2
            write 0 3 0 2
            write 0 4 0 2
            flush 0 -> DUPLICATE
            """);
        Script.sentence("FLUSH", "one after the other: STALE of the lesser row before BUSY", rows + """
            write 0 3 0 2
            write 0 4 0 2
            flush 0 -> STALE
            """);
        Script.sentence("FLUSH", "one after the other: BUSY of an UPDATE before STALE of a DELETE", rows + """
            remove 0 3
            write 0 4 0 2
            flush 0 -> BUSY
            """);
        Script.sentence("FLUSH", "one after the other: STALE of an UPDATE before BUSY of a DELETE", rows + """
            write 0 3 0 2
            remove 0 4
            flush 0 -> STALE
            """);
        Script.sentence("FLUSH", "After all of them: FOREIGN, behind DUPLICATE, STALE and BUSY", rows + """
            make 0 1 1 1 15
            persist 0 1
            remove 0 4
            flush 0 -> BUSY
            statements -> I1
            rollback 0
            make 0 1 1 1 15
            persist 0 1
            make 0 2 1 1 -1
            persist 0 2
            flush 0 -> DUPLICATE
            statements -> I1
            """);
        Script.sentence("FLUSH", "After all of them: FOREIGN, behind STALE", rows + """
            make 0 1 1 1 15
            persist 0 1
            remove 0 3
            flush 0 -> STALE
            statements -> I1
            """);
    }

    private static void settled() {
        Script.sentence("FLUSH", "If none of these errors comes about, NEW and DIRTY ones are MANAGED as they were written", """
            stored 4 7 8 -1
            get 0 4
            write 0 4 0 MIN
            make 0 0 MAX 1 0
            persist 0 0
            flush 0
            states 0 -> 0M 4M
            entity 0 0 -> MAX 1 0 0
            entity 0 4 -> MIN 8 -1 1
            read 0 0 5 -> 0
            read 0 4 5 -> 0
            flush 0
            statements -> none
            """);
        Script.sentence("FLUSH", "REMOVED ones are none", """
            stored 4 7 8 -1
            get 0 4
            remove 0 4
            flush 0
            read 0 4 4 -> 0
            read 0 4 0 -> NO
            detach 0 4 -> NO
            make 0 4 1 1 -1
            """);
        Script.sentence("FLUSH", "NEW and DIRTY ones are MANAGED as they were written, REMOVED ones are none: others stay as they are", """
            stored 4 7 8 -1
            stored 5 7 8 -1
            get 0 4
            refer 0 5
            make 0 6 1 1 -1
            make 1 7 1 1 -1
            persist 1 7
            get 1 4
            write 1 4 0 1
            flush 0
            states 0 -> 4M 5P 6T
            states 1 -> 4M 7N
            read 1 4 5 -> 1
            """);
    }

    private static void broken() {
        Script.sentence("FLUSH", "Else the session is BROKEN: that one alone", """
            stored 4 7 8 -1
            make 0 4 1 1 -1
            persist 0 4
            make 1 5 1 1 -1
            persist 1 5
            flush 1
            flush 0 -> DUPLICATE
            states 0 -> BROKEN
            states 1 -> 5M
            states 2 -> none
            locks -> 5:1
            """);
        Script.sentence("FLUSH", "what it has WRITTEN since it committed last is as if it had not: also in FLUSHES before", """
            stored 4 7 8 -1
            stored 5 7 8 -1
            get 0 4
            write 0 4 0 1
            commit 0
            write 0 4 0 2
            flush 0
            get 0 5
            remove 0 5
            flush 0
            make 0 6 1 1 -1
            persist 0 6
            flush 0
            locks -> 4:0 5:0 6:0
            make 0 7 1 1 15
            persist 0 7
            flush 0 -> FOREIGN
            row 4 -> 1 8 -1 1
            row 5 -> 7 8 -1 0
            row 6 -> none
            row 7 -> none
            rollback 0
            get 0 4
            entity 0 4 -> 1 8 -1 1
            get 0 5
            get 0 6 -> LOST
            commit 0
            row 5 -> 7 8 -1 0
            """);
        for (List<String> error : List.of(
            List.of("DUPLICATE", "make 0 4 1 1 -1\npersist 0 4"),
            List.of("STALE", "get 0 4\nget 1 4\nwrite 1 4 0 1\ncommit 1\nwrite 0 4 0 2"),
            List.of("BUSY", "get 0 4\nget 1 4\nwrite 1 4 0 1\nflush 1\nwrite 0 4 0 2"),
            List.of("UNSAVED", "make 0 5 1 1 6\npersist 0 5\nmake 0 6 1 1 -1"),
            List.of("FOREIGN", "make 0 5 1 1 6\npersist 0 5"))) {
            Script.sentence("FLUSH", "Else the session is BROKEN: [..] nothing is LOCKED by it", """
                stored 4 7 8 -1
                make 0 8 1 1 -1
                persist 0 8
                flush 0
                row 8 5 -> 0
                """ + error.get(1) + """

                flush 0 -> """ + " " + error.get(0) + """

                row 8 5 -> -1
                row 8 -> none
                get 0 8 -> BROKEN
                get 2 8 -> LOST
                make 1 8 2 2 -1
                persist 1 8
                commit 1
                row 8 -> 2 2 -1 0
                """);
        }
    }
}
