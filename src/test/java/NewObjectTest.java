/** Promises 1 (a new object, and the order NO, BROKEN), 2 (mode) and the constants. */
public final class NewObjectTest {
    private static final int MIN = Integer.MIN_VALUE, MAX = Integer.MAX_VALUE;

    public static void main(String[] args) {
        constants();
        nothingIsThere();
        modesAreOff();
        wrongSessionsAndRows();
        brokenSessions();
        noComesBeforeBroken();
        objectsAreApart();
        modes();
        Due.end();
    }

    private static void constants() {
        long[] got = {SessionDesk.OK, SessionDesk.NO, SessionDesk.BROKEN, SessionDesk.LOST, SessionDesk.STALE,
            SessionDesk.DUPLICATE, SessionDesk.BUSY, SessionDesk.UNSAVED, SessionDesk.FOREIGN};
        for (int n = 0; n < got.length; n++) {
            Due.due(1, "constant " + n, -n, got[n]);
        }
        Due.due(1, "BASE", -10_000_000_000L, SessionDesk.BASE);
    }

    private static void nothingIsThere() {
        SessionDesk x = new SessionDesk();
        for (int key = 0; key < 16; key++) {
            Due.row(1, x, key, "-");
            Due.due(1, "row(" + key + ", 5)", -1, x.row(key, 5));
            Due.due(1, "row(" + key + ", 6)", 0, x.row(key, 6));
            for (int s = 0; s < 3; s++) {
                Due.due(1, "read(" + s + ", " + key + ", 4)", 0, x.read(s, key, 4));
            }
        }
        Due.counts(1, x, 0, 0, 0, 0, 0);
        Due.statements(1, x, "");
        Due.due(1, "found(0)", -1, x.found(0));
    }

    private static void modesAreOff() {
        SessionDesk x = new SessionDesk();
        x.make(0, 1, 0, 0, 2);
        x.make(0, 2, 0, 0, -1);
        x.persist(0, 1);
        Due.due(1, "read(0, 2, 4), UP off", 1, x.read(0, 2, 4));
        Due.due(1, "flush(0), UP off", -7, x.flush(0));
        Due.commitRow(x, 3, 0, 0, -1);
        Due.commitRow(x, 4, 0, 0, 3);
        x.refer(1, 3);
        x.refer(1, 4);
        x.get(1, 3);
        Due.due(1, "read(1, 4, 4), BATCH off", 3, x.read(1, 4, 4));
        x.remove(1, 3);
        Due.due(1, "read(1, 4, 4), DOWN off", 3, x.read(1, 4, 4));
    }

    private static void wrongSessionsAndRows() {
        SessionDesk x = new SessionDesk();
        x.make(0, 0, 1, 1, -1);
        int[] sessions = {-1, 3, MIN, MAX};
        for (int s : sessions) {
            answers(x, s, 0, SessionDesk.NO);
            Due.due(1, "merge(1, " + s + ", 0)", -1, x.merge(1, s, 0));
            Due.due(1, "find(" + s + ", 0, 0)", -1, x.find(s, 0, 0));
            Due.due(1, "flush(" + s + ")", -1, x.flush(s));
            Due.due(1, "commit(" + s + ")", -1, x.commit(s));
            Due.due(1, "rollback(" + s + ")", -1, x.rollback(s));
        }
        int[] keys = {-1, 16, MIN, MAX};
        for (int key : keys) {
            answers(x, 0, key, SessionDesk.NO);
        }
        Due.due(1, "read(0, 0, 4)", 1, x.read(0, 0, 4));
        Due.counts(1, x, 0, 0, 0, 0, 0);
    }

    private static void answers(SessionDesk x, int s, int key, int want) {
        String with = "(" + s + ", " + key + ", ..)";
        Due.due(1, "make" + with, want, x.make(s, key, 1, 1, -1));
        Due.due(1, "persist" + with, want, x.persist(s, key));
        Due.due(1, "get" + with, want, x.get(s, key));
        Due.due(1, "refer" + with, want, x.refer(s, key));
        for (int what = -1; what <= 6; what++) {
            Due.due(1, "read" + with, want + SessionDesk.BASE, x.read(s, key, what));
            Due.due(1, "write" + with, want, x.write(s, key, what, 1));
        }
        Due.due(1, "remove" + with, want, x.remove(s, key));
        Due.due(1, "detach" + with, want, x.detach(s, key));
        Due.due(1, "merge" + with, want, x.merge(s, 1, key));
        Due.due(1, "refresh" + with, want, x.refresh(s, key));
    }

    private static void brokenSessions() {
        SessionDesk x = new SessionDesk();
        Due.commitRow(x, 5, 1, 2, -1);
        Due.breakSession(x, 0, 5);
        answers(x, 0, 5, SessionDesk.BROKEN);
        answers(x, 0, 6, SessionDesk.BROKEN);
        Due.due(1, "make with a wrong link, BROKEN", -2, x.make(0, 7, 0, 0, 99));
        Due.due(1, "merge(0, 0, 5), BROKEN", -2, x.merge(0, 0, 5));
        Due.due(1, "find, BROKEN", -2, x.find(0, 0, 1));
        Due.due(1, "find of another what, BROKEN", -2, x.find(0, 3, 1));
        Due.due(1, "flush, BROKEN", -2, x.flush(0));
        Due.due(1, "commit, BROKEN", -2, x.commit(0));
        Due.due(1, "get of another session", 0, x.get(1, 5));
        Due.due(1, "rollback, BROKEN", 0, x.rollback(0));
        Due.due(1, "get after the rollback", 0, x.get(0, 5));
    }

    private static void noComesBeforeBroken() {
        SessionDesk x = new SessionDesk();
        Due.commitRow(x, 5, 1, 2, -1);
        Due.breakSession(x, 0, 5);
        answers(x, 0, 16, SessionDesk.NO);
        answers(x, 0, -1, SessionDesk.NO);
        Due.due(1, "merge(0, 3, 5), BROKEN", -1, x.merge(0, 3, 5));
        Due.due(1, "merge(0, -1, 5), BROKEN", -1, x.merge(0, -1, 5));
    }

    private static void objectsAreApart() {
        SessionDesk x = new SessionDesk();
        SessionDesk y = new SessionDesk();
        Due.commitRow(x, 5, 1, 2, -1);
        x.mode(0, true);
        Due.row(1, y, 5, "-");
        y.make(0, 1, 0, 0, 2);
        y.make(0, 2, 0, 0, -1);
        y.persist(0, 1);
        Due.due(1, "read(0, 2, 4) of another object", 1, y.read(0, 2, 4));
    }

    private static void modes() {
        SessionDesk x = new SessionDesk();
        int[] others = {-1, 3, MIN, MAX};
        for (int what : others) {
            Due.due(2, "mode(" + what + ", true)", false, x.mode(what, true));
            Due.due(2, "mode(" + what + ", false)", false, x.mode(what, false));
        }
        for (int what = 0; what < 3; what++) {
            Due.due(2, "mode(" + what + ", false)", true, x.mode(what, false));
            Due.due(2, "mode(" + what + ", true)", true, x.mode(what, true));
            Due.due(2, "mode(" + what + ", true) again", true, x.mode(what, true));
        }
        x.mode(0, false);
        x.make(0, 1, 0, 0, 2);
        x.make(0, 2, 0, 0, -1);
        x.persist(0, 1);
        Due.due(2, "read(0, 2, 4), UP off again", 1, x.read(0, 2, 4));
        x.mode(0, true);
        Due.due(2, "flush(0), UP on", 0, x.flush(0));
        Due.statements(2, x, "I2 I1");
    }
}
