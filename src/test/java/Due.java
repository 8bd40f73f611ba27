/** What the tests share: it compares answers, prints the wrong ones, and ends a test. */
final class Due {
    static final long NO_LONG = SessionDesk.NO + SessionDesk.BASE;
    static final long BROKEN_LONG = SessionDesk.BROKEN + SessionDesk.BASE;
    static final long LOST_LONG = SessionDesk.LOST + SessionDesk.BASE;

    private static int wrong = 0;
    private static int checked = 0;

    private Due() { }

    static void due(int promise, String call, long want, long got) {
        checked++;
        if (got != want) {
            wrong++;
            System.out.println("promise " + promise + ": " + call + " answered " + got + ", due is " + want);
        }
    }

    static void due(int promise, String call, boolean want, boolean got) {
        due(promise, call, want ? 1 : 0, got ? 1 : 0);
    }

    /** All five counts at once: READs, HITs, INSERTs, UPDATEs, DELETEs. */
    static void counts(int promise, SessionDesk x, int... want) {
        for (int what = 0; what < want.length; what++) {
            due(promise, "count(" + what + ")", want[what], x.count(what));
        }
    }

    /** All statements of the latest FLUSH, as "I3 U4 D5". */
    static void statements(int promise, SessionDesk x, String want) {
        StringBuilder got = new StringBuilder();
        int k = 0;
        for (; x.statement(k, 0) != SessionDesk.NO; k++) {
            got.append(k == 0 ? "" : " ").append("IUD".charAt(x.statement(k, 0))).append(x.statement(k, 1));
        }
        due(promise, "statement(" + k + ", 1) after the last", SessionDesk.NO, x.statement(k, 1));
        text(promise, "the statements", want, got.toString());
    }

    /** A committed row as "a b link version", or "-" if it is not there. */
    static void row(int promise, SessionDesk x, int key, String want) {
        String got = x.row(key, 4) == 0 ? "-"
            : x.row(key, 0) + " " + x.row(key, 1) + " " + x.row(key, 2) + " " + x.row(key, 3);
        text(promise, "row " + key, want, got);
    }

    /** An entity that is loaded, or made, as "a b link version". */
    static void entity(int promise, SessionDesk x, int s, int key, String want) {
        String got = x.read(s, key, 0) + " " + x.read(s, key, 1) + " " + x.read(s, key, 2) + " " + x.read(s, key, 3);
        text(promise, "the entity of session " + s + " for row " + key, want, got);
    }

    static void text(int promise, String what, String want, String got) {
        text("promise " + promise + ": " + what, want, got);
    }

    static void text(String what, String want, String got) {
        checked++;
        if (!got.equals(want)) {
            wrong++;
            System.out.println(what + " was '" + got + "', due is '" + want + "'");
        }
    }

    /** Makes and commits a row by session 2, which has no entities afterwards. */
    static void commitRow(SessionDesk x, int key, int a, int b, int link) {
        due(16, "make for a committed row", SessionDesk.OK, x.make(2, key, a, b, link));
        due(16, "persist for a committed row", SessionDesk.OK, x.persist(2, key));
        due(16, "commit of a row", SessionDesk.OK, x.commit(2));
        due(16, "rollback after the commit", SessionDesk.OK, x.rollback(2));
    }

    /** Brings a session into BROKEN, by an insert of a row that is there: key. */
    static void breakSession(SessionDesk x, int s, int key) {
        x.detach(s, key);
        x.make(s, key, 0, 0, -1);
        x.persist(s, key);
        due(15, "flush(" + s + ") of a row that is there", SessionDesk.DUPLICATE, x.flush(s));
    }

    static void end() {
        System.out.println(wrong == 0 ? checked + " answers are as due" : wrong + " of " + checked + " answers are not as due");
        if (wrong != 0) {
            System.exit(1);
        }
    }
}
