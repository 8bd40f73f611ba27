/** Promises 3 (make), 4 (persist), 5 (get), 6 (refer), 7 (read), 8 (write) and 10 (detach). */
public final class EntityTest {
    private static final int MIN = Integer.MIN_VALUE, MAX = Integer.MAX_VALUE;

    public static void main(String[] args) {
        make();
        persist();
        persistUp();
        persistRemoved();
        get();
        refer();
        read();
        readTouches();
        write();
        writeTouches();
        detach();
        Due.end();
    }

    private static void make() {
        SessionDesk x = new SessionDesk();
        Due.due(3, "make(0, 0, MIN, MAX, -1)", 0, x.make(0, 0, MIN, MAX, -1));
        Due.entity(3, x, 0, 0, MIN + " " + MAX + " -1 0");
        Due.due(3, "read(0, 0, 4)", 1, x.read(0, 0, 4));
        Due.due(3, "make(0, 15, 1, 2, 15)", 0, x.make(0, 15, 1, 2, 15));
        Due.entity(3, x, 0, 15, "1 2 15 0");
        Due.due(3, "make(0, 0, ..) again", -1, x.make(0, 0, 5, 5, 5));
        Due.entity(3, x, 0, 0, MIN + " " + MAX + " -1 0");
        int[] wrong = {-2, 16, MIN, MAX};
        for (int link : wrong) {
            Due.due(3, "make(0, 1, 1, 2, " + link + ")", -1, x.make(0, 1, 1, 2, link));
            Due.due(3, "read(0, 1, 4)", 0, x.read(0, 1, 4));
        }
        x.refer(0, 2);
        Due.due(3, "make for a PROXY", -1, x.make(0, 2, 1, 2, -1));
        Due.due(3, "make in another session", 0, x.make(1, 0, 7, 8, 9));
        Due.entity(3, x, 1, 0, "7 8 9 0");
        Due.due(3, "read(0, 0, 0)", MIN, x.read(0, 0, 0));
        Due.due(3, "flush of TRANSIENT ones", 0, x.flush(0));
        Due.statements(3, x, "");
    }

    private static void persist() {
        SessionDesk x = new SessionDesk();
        Due.due(4, "persist of none", -1, x.persist(0, 0));
        x.make(0, 0, 1, 2, 1);
        x.make(0, 1, 1, 2, -1);
        Due.due(4, "persist(0, 0)", 0, x.persist(0, 0));
        Due.due(4, "read(0, 0, 4)", 2, x.read(0, 0, 4));
        Due.due(4, "read(0, 1, 4), UP off", 1, x.read(0, 1, 4));
        Due.due(4, "persist of a NEW one", 0, x.persist(0, 0));
        Due.due(4, "read(0, 0, 4)", 2, x.read(0, 0, 4));
        x.refer(0, 2);
        Due.due(4, "persist of a PROXY", 0, x.persist(0, 2));
        Due.due(4, "read(0, 2, 4)", 3, x.read(0, 2, 4));
        x.persist(0, 1);
        x.flush(0);
        x.write(0, 1, 0, 9);
        Due.due(4, "persist of a MANAGED one", 0, x.persist(0, 1));
        Due.due(4, "read(0, 1, 4)", 4, x.read(0, 1, 4));
        Due.due(4, "read(0, 1, 5)", 1, x.read(0, 1, 5));
        Due.counts(4, x, 0, 0, 2, 0, 0);
    }

    private static void persistUp() {
        SessionDesk x = new SessionDesk();
        x.mode(0, true);
        for (int key = 0; key < 16; key++) {
            x.make(0, key, 0, 0, key == 15 ? -1 : key + 1);
        }
        x.persist(0, 8);
        x.persist(0, 3);
        for (int key = 0; key < 16; key++) {
            Due.due(4, "read(0, " + key + ", 4), a chain", key < 3 ? 1 : 2, x.read(0, key, 4));
        }
        x.rollback(0);
        x.make(0, 6, 0, 0, 0);
        x.make(0, 0, 0, 0, 3);
        x.make(0, 3, 0, 0, -1);
        x.persist(0, 6);
        Due.due(4, "read(0, 0, 4), by row 0", 2, x.read(0, 0, 4));
        Due.due(4, "read(0, 3, 4), by row 0", 2, x.read(0, 3, 4));
        x.rollback(0);
        x.make(0, 4, 0, 0, 9);
        x.make(0, 9, 0, 0, 4);
        x.make(0, 5, 0, 0, 5);
        x.persist(0, 4);
        Due.due(4, "read(0, 9, 4), a ring", 2, x.read(0, 9, 4));
        x.persist(0, 5);
        Due.due(4, "read(0, 5, 4), a link to itself", 2, x.read(0, 5, 4));
        x.rollback(0);
        x.make(0, 1, 0, 0, 2);
        x.make(0, 2, 0, 0, 3);
        x.make(0, 3, 0, 0, -1);
        x.mode(0, false);
        x.persist(0, 2);
        x.mode(0, true);
        x.persist(0, 1);
        Due.due(4, "read(0, 3, 4), behind one that was NEW", 1, x.read(0, 3, 4));
        x.persist(0, 2);
        Due.due(4, "read(0, 3, 4), after persist of a NEW one", 1, x.read(0, 3, 4));
        x.make(1, 1, 0, 0, 2);
        x.make(2, 2, 0, 0, -1);
        x.persist(1, 1);
        Due.due(4, "read(2, 2, 4), of another session", 1, x.read(2, 2, 4));
    }

    private static void persistRemoved() {
        SessionDesk x = new SessionDesk();
        Due.commitRow(x, 4, 1, 2, -1);
        x.mode(0, true);
        x.get(0, 4);
        x.make(0, 5, 0, 0, -1);
        x.write(0, 4, 2, 5);
        x.remove(0, 4);
        Due.due(4, "persist of a REMOVED one", 0, x.persist(0, 4));
        Due.due(4, "read(0, 4, 4)", 4, x.read(0, 4, 4));
        Due.due(4, "read(0, 4, 5)", 1, x.read(0, 4, 5));
        Due.due(4, "read(0, 5, 4): no TRANSIENT one was persisted", 1, x.read(0, 5, 4));
        x.write(0, 4, 2, -1);
        Due.due(4, "read(0, 4, 5) as loaded", 0, x.read(0, 4, 5));
        Due.due(4, "commit", 0, x.commit(0));
        Due.statements(4, x, "");
        Due.row(4, x, 4, "1 2 -1 0");
    }

    private static void get() {
        SessionDesk x = new SessionDesk();
        Due.due(5, "get of a row that is not there", -3, x.get(0, 4));
        Due.due(5, "read(0, 4, 4)", 0, x.read(0, 4, 4));
        Due.counts(5, x, 1, 0);
        x.refer(0, 4);
        Due.due(5, "get of a PROXY that is LOST", -3, x.get(0, 4));
        Due.due(5, "read(0, 4, 4)", 3, x.read(0, 4, 4));
        Due.counts(5, x, 2, 0);
        Due.commitRow(x, 4, 1, 2, 4);
        Due.due(5, "get of a PROXY", 0, x.get(0, 4));
        Due.entity(5, x, 0, 4, "1 2 4 0");
        Due.due(5, "get of none", 0, x.get(1, 4));
        Due.due(5, "read(1, 4, 4)", 4, x.read(1, 4, 4));
        Due.counts(5, x, 2, 2);
        x.write(1, 4, 0, 9);
        Due.due(5, "get of a MANAGED one", 0, x.get(1, 4));
        Due.entity(5, x, 1, 4, "9 2 4 0");
        x.remove(1, 4);
        Due.due(5, "get of a REMOVED one", -3, x.get(1, 4));
        Due.due(5, "read(1, 4, 4)", 5, x.read(1, 4, 4));
        x.make(1, 6, 0, 0, -1);
        Due.due(5, "get of a TRANSIENT one", 0, x.get(1, 6));
        x.persist(1, 6);
        Due.due(5, "get of a NEW one", 0, x.get(1, 6));
        Due.due(5, "read(1, 6, 4)", 2, x.read(1, 6, 4));
        Due.counts(5, x, 2, 2);
    }

    private static void refer() {
        SessionDesk x = new SessionDesk();
        Due.commitRow(x, 4, 1, 2, -1);
        Due.due(6, "refer to a row that is not there", 0, x.refer(0, 3));
        Due.due(6, "read(0, 3, 4)", 3, x.read(0, 3, 4));
        Due.due(6, "refer again", 0, x.refer(0, 3));
        Due.due(6, "refer(0, 4)", 0, x.refer(0, 4));
        Due.due(6, "read(0, 4, 4)", 3, x.read(0, 4, 4));
        Due.due(6, "read(0, 4, 5)", 0, x.read(0, 4, 5));
        Due.counts(6, x, 0, 0);
        x.get(0, 4);
        Due.due(6, "refer to a MANAGED one", 0, x.refer(0, 4));
        Due.due(6, "read(0, 4, 4)", 4, x.read(0, 4, 4));
        x.remove(0, 4);
        Due.due(6, "refer to a REMOVED one", 0, x.refer(0, 4));
        Due.due(6, "read(0, 4, 4)", 5, x.read(0, 4, 4));
        x.make(0, 5, 1, 1, -1);
        Due.due(6, "refer to a TRANSIENT one", 0, x.refer(0, 5));
        Due.due(6, "read(0, 5, 4)", 1, x.read(0, 5, 4));
        x.persist(0, 5);
        Due.due(6, "refer to a NEW one", 0, x.refer(0, 5));
        Due.due(6, "read(0, 5, 4)", 2, x.read(0, 5, 4));
    }

    private static void read() {
        SessionDesk x = new SessionDesk();
        for (int what = 0; what <= 3; what++) {
            Due.due(7, "read(0, 4, " + what + ") of none", Due.NO_LONG, x.read(0, 4, what));
        }
        Due.due(7, "read(0, 4, 4) of none", 0, x.read(0, 4, 4));
        Due.due(7, "read(0, 4, 5) of none", 0, x.read(0, 4, 5));
        Due.commitRow(x, 4, -1, -2, -1);
        x.get(0, 4);
        x.write(0, 4, 0, 6);
        x.commit(0);
        Due.entity(7, x, 0, 4, "6 -2 -1 1");
        int[] others = {-1, 6, MIN, MAX};
        for (int what : others) {
            Due.due(7, "read(0, 4, " + what + ")", Due.NO_LONG, x.read(0, 4, what));
            Due.due(7, "read(0, 9, " + what + ") of none", Due.NO_LONG, x.read(0, 9, what));
        }
        int[] cells = {0, 1, 2};
        for (int what : cells) {
            long was = x.read(0, 4, what);
            x.write(0, 4, what, 4);
            Due.due(7, "read(0, 4, 5) after a write of " + what, 1, x.read(0, 4, 5));
            x.write(0, 4, what, (int) was);
            Due.due(7, "read(0, 4, 5) as it was", 0, x.read(0, 4, 5));
        }
        x.write(0, 4, 1, 77);
        x.remove(0, 4);
        Due.due(7, "read(0, 4, 5) of a REMOVED one", 0, x.read(0, 4, 5));
        Due.entity(7, x, 0, 4, "6 77 -1 1");
        x.detach(0, 4);
        x.make(0, 4, 1, 1, -1);
        Due.due(7, "the VERSION of a TRANSIENT one", 0, x.read(0, 4, 3));
        Due.due(7, "read(0, 4, 5) of a TRANSIENT one", 0, x.read(0, 4, 5));
        x.persist(0, 4);
        Due.due(7, "the VERSION of a NEW one", 0, x.read(0, 4, 3));
        Due.due(7, "read(0, 4, 5) of a NEW one", 0, x.read(0, 4, 5));
    }

    private static void readTouches() {
        String[] want = {"7", "8", "4", "0"};
        for (int what = 0; what <= 3; what++) {
            SessionDesk x = new SessionDesk();
            Due.commitRow(x, 4, 7, 8, 4);
            x.refer(0, 4);
            Due.text(7, "read(0, 4, " + what + ") of a PROXY", want[what], "" + x.read(0, 4, what));
            Due.due(7, "read(0, 4, 4) then", 4, x.read(0, 4, 4));
            Due.counts(7, x, 0, 1);
            x.refer(0, 5);
            Due.due(7, "read(0, 5, " + what + ") of a PROXY", Due.LOST_LONG, x.read(0, 5, what));
            Due.due(7, "read(0, 5, 4) then", 3, x.read(0, 5, 4));
            Due.counts(7, x, 1, 1);
            Due.due(7, "read(0, 5, 6) of a PROXY", Due.NO_LONG, x.read(0, 5, 6));
            Due.counts(7, x, 1, 1);
        }
    }

    private static void write() {
        SessionDesk x = new SessionDesk();
        for (int what = 0; what <= 2; what++) {
            Due.due(8, "write(0, 4, " + what + ", 1) of none", -1, x.write(0, 4, what, 1));
        }
        x.make(0, 4, 0, 0, 0);
        Due.due(8, "write(0, 4, 0, MIN)", 0, x.write(0, 4, 0, MIN));
        Due.due(8, "write(0, 4, 1, MAX)", 0, x.write(0, 4, 1, MAX));
        Due.due(8, "write(0, 4, 2, 15)", 0, x.write(0, 4, 2, 15));
        Due.entity(8, x, 0, 4, MIN + " " + MAX + " 15 0");
        Due.due(8, "write(0, 4, 2, -1)", 0, x.write(0, 4, 2, -1));
        int[] links = {-2, 16, MIN, MAX};
        for (int link : links) {
            Due.due(8, "write(0, 4, 2, " + link + ")", -1, x.write(0, 4, 2, link));
        }
        int[] others = {-1, 3, 4, 5, MIN, MAX};
        for (int what : others) {
            Due.due(8, "write(0, 4, " + what + ", 0)", -1, x.write(0, 4, what, 0));
        }
        Due.entity(8, x, 0, 4, MIN + " " + MAX + " -1 0");
        x.persist(0, 4);
        Due.due(8, "write to a NEW one", 0, x.write(0, 4, 0, 5));
        x.commit(0);
        Due.row(8, x, 4, "5 " + MAX + " -1 0");
        Due.due(8, "write to a MANAGED one", 0, x.write(0, 4, 1, 6));
        Due.row(8, x, 4, "5 " + MAX + " -1 0");
        x.commit(0);
        Due.row(8, x, 4, "5 6 -1 1");
        x.remove(0, 4);
        Due.due(8, "write to a REMOVED one", -1, x.write(0, 4, 1, 9));
        Due.entity(8, x, 0, 4, "5 6 -1 1");
    }

    private static void writeTouches() {
        SessionDesk x = new SessionDesk();
        Due.commitRow(x, 4, 7, 8, -1);
        x.refer(0, 4);
        x.refer(0, 5);
        Due.due(8, "write of another what to a PROXY", -1, x.write(0, 4, 3, 1));
        Due.due(8, "write of a wrong link to a PROXY", -1, x.write(0, 4, 2, 16));
        Due.due(8, "read(0, 4, 4)", 3, x.read(0, 4, 4));
        Due.counts(8, x, 0, 0);
        Due.due(8, "write to a PROXY", 0, x.write(0, 4, 0, 1));
        Due.counts(8, x, 0, 1);
        Due.entity(8, x, 0, 4, "1 8 -1 0");
        Due.due(8, "read(0, 4, 5)", 1, x.read(0, 4, 5));
        Due.due(8, "write to a PROXY that is LOST", -3, x.write(0, 5, 0, 1));
        Due.due(8, "read(0, 5, 4)", 3, x.read(0, 5, 4));
        Due.counts(8, x, 1, 1);
    }

    private static void detach() {
        SessionDesk x = new SessionDesk();
        Due.commitRow(x, 4, 7, 8, -1);
        Due.due(10, "detach of none", -1, x.detach(0, 4));
        x.refer(0, 4);
        gone(x, 4, "a PROXY");
        x.get(0, 4);
        x.write(0, 4, 0, 99);
        gone(x, 4, "a MANAGED one");
        x.get(0, 4);
        Due.entity(10, x, 0, 4, "7 8 -1 0");
        x.remove(0, 4);
        gone(x, 4, "a REMOVED one");
        x.make(0, 5, 0, 0, -1);
        gone(x, 5, "a TRANSIENT one");
        x.make(0, 5, 0, 0, -1);
        x.persist(0, 5);
        gone(x, 5, "a NEW one");
        Due.due(10, "commit", 0, x.commit(0));
        Due.statements(10, x, "");
        Due.row(10, x, 4, "7 8 -1 0");
        x.get(0, 4);
        x.get(1, 4);
        x.detach(0, 4);
        Due.due(10, "read(1, 4, 4) after detach in session 0", 4, x.read(1, 4, 4));
        x.write(1, 4, 0, 3);
        x.flush(1);
        Due.due(10, "detach of one that was written", 0, x.detach(1, 4));
        Due.due(10, "row(4, 5)", 1, x.row(4, 5));
        x.get(1, 4);
        Due.entity(10, x, 1, 4, "3 8 -1 1");
    }

    private static void gone(SessionDesk x, int key, String what) {
        Due.due(10, "detach of " + what, 0, x.detach(0, key));
        Due.due(10, "read(0, " + key + ", 4)", 0, x.read(0, key, 4));
        Due.due(10, "read(0, " + key + ", 0)", Due.NO_LONG, x.read(0, key, 0));
        Due.due(10, "detach again", -1, x.detach(0, key));
    }
}
