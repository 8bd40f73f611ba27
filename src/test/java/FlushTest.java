/** Promises 15 (flush), 18 (statement) and 20 (count). */
public final class FlushTest {
    public static void main(String[] args) {
        insertOrder();
        rings();
        allStatements();
        updates();
        deleteOrder();
        deleteOrderIsOfTheSnapshots();
        kindsInOrder();
        unsaved();
        up();
        duplicate();
        stale();
        busy();
        busyComesFirst();
        foreign();
        foreignByOthers();
        whatFailedIsUndone();
        statement();
        count();
        Due.end();
    }

    private static void persist(SessionDesk x, int s, int... keysAndLinks) {
        for (int n = 0; n < keysAndLinks.length; n += 2) {
            Due.due(3, "make", 0, x.make(s, keysAndLinks[n], keysAndLinks[n], 0, keysAndLinks[n + 1]));
            Due.due(4, "persist", 0, x.persist(s, keysAndLinks[n]));
        }
    }

    private static void insertOrder() {
        SessionDesk x = new SessionDesk();
        persist(x, 0, 0, 3, 1, 0, 2, 2, 3, -1, 5, 4, 4, -1);
        Due.due(15, "flush", 0, x.flush(0));
        Due.statements(15, x, "I2 I3 I0 I1 I4 I5");
        for (int key = 0; key <= 5; key++) {
            Due.due(15, "read(0, " + key + ", 4)", 4, x.read(0, key, 4));
            Due.due(15, "read(0, " + key + ", 3)", 0, x.read(0, key, 3));
            Due.due(15, "row(" + key + ", 5)", 0, x.row(key, 5));
            Due.row(15, x, key, "-");
        }
        Due.due(15, "flush again", 0, x.flush(0));
        Due.statements(15, x, "");
        persist(x, 0, 7, 8, 8, 5);
        Due.due(15, "flush of links to what is there", 0, x.flush(0));
        Due.statements(15, x, "I8 I7");
    }

    private static void rings() {
        SessionDesk x = new SessionDesk();
        persist(x, 0, 3, 5, 5, 3, 1, 5, 8, 9, 9, 8);
        Due.due(15, "commit", 0, x.commit(0));
        Due.statements(15, x, "I1 I3 I5 I8 I9 U1 U3 U8");
        Due.row(15, x, 1, "1 0 5 1");
        Due.row(15, x, 3, "3 0 5 1");
        Due.row(15, x, 5, "5 0 3 0");
        Due.entity(15, x, 0, 1, "1 0 5 1");
        Due.due(15, "read(0, 1, 5)", 0, x.read(0, 1, 5));
        x.write(0, 5, 0, 1);
        x.write(0, 1, 0, 2);
        persist(x, 0, 0, 2, 2, 0);
        Due.due(15, "commit", 0, x.commit(0));
        Due.statements(15, x, "I0 I2 U1 U5 U0");
        Due.row(15, x, 1, "2 0 5 2");
        Due.row(15, x, 0, "0 0 2 1");
    }

    private static void allStatements() {
        SessionDesk x = new SessionDesk();
        for (int key = 0; key < 16; key += 2) {
            persist(x, 0, key, key + 1, key + 1, key);
        }
        Due.due(15, "flush of eight rings", 0, x.flush(0));
        Due.counts(20, x, 0, 0, 16, 8, 0);
        Due.due(18, "statement(23, 1)", 14, x.statement(23, 1));
        Due.due(18, "statement(24, 1)", -1, x.statement(24, 1));
        x = new SessionDesk();
        for (int key = 0; key < 16; key++) {
            persist(x, 0, key, (key + 1) % 16);
        }
        Due.due(15, "flush of one ring", 0, x.flush(0));
        Due.statements(15, x, "I0 I15 I14 I13 I12 I11 I10 I9 I8 I7 I6 I5 I4 I3 I2 I1 U0");
        x = new SessionDesk();
        for (int key = 0; key < 16; key++) {
            persist(x, 0, key, key == 15 ? 14 : 15);
        }
        Due.due(15, "flush of a ring behind others", 0, x.flush(0));
        Due.statements(15, x, "I0 I1 I2 I3 I4 I5 I6 I7 I8 I9 I10 I11 I12 I13 I14 I15 "
            + "U0 U1 U2 U3 U4 U5 U6 U7 U8 U9 U10 U11 U12 U13 U14");
    }

    private static void updates() {
        SessionDesk x = new SessionDesk();
        persist(x, 0, 3, -1, 1, -1, 2, -1);
        x.commit(0);
        x.write(0, 3, 1, 5);
        x.write(0, 1, 2, 2);
        x.write(0, 2, 0, 6);
        x.write(0, 2, 0, 2);
        Due.due(15, "flush", 0, x.flush(0));
        Due.statements(15, x, "U1 U3");
        Due.entity(15, x, 0, 3, "3 5 -1 1");
        Due.due(15, "read(0, 3, 5)", 0, x.read(0, 3, 5));
        Due.row(15, x, 3, "3 0 -1 0");
        x.write(0, 3, 1, 6);
        Due.due(15, "flush", 0, x.flush(0));
        Due.entity(15, x, 0, 3, "3 6 -1 2");
        Due.due(15, "commit", 0, x.commit(0));
        Due.row(15, x, 3, "3 6 -1 2");
        Due.row(15, x, 1, "1 0 2 1");
        Due.row(15, x, 2, "2 0 -1 0");
    }

    private static void deleteOrder() {
        SessionDesk x = new SessionDesk();
        persist(x, 0, 0, -1, 1, 0, 2, 2, 3, 1, 4, 2);
        x.commit(0);
        for (int key = 0; key <= 4; key++) {
            x.remove(0, key);
        }
        Due.due(15, "flush", 0, x.flush(0));
        Due.statements(15, x, "D3 D1 D0 D4 D2");
        x.rollback(0);
        x = new SessionDesk();
        persist(x, 0, 3, 7, 7, 5, 5, 3, 9, 3, 1, 1);
        x.commit(0);
        int[] keys = {9, 7, 5, 3, 1};
        for (int key : keys) {
            x.remove(0, key);
        }
        Due.due(15, "flush", 0, x.flush(0));
        Due.statements(15, x, "D1 D9 D3 D7 D5");
    }

    private static void deleteOrderIsOfTheSnapshots() {
        SessionDesk x = new SessionDesk();
        persist(x, 0, 1, -1, 2, 1);
        x.commit(0);
        x.write(0, 2, 2, -1);
        x.write(0, 1, 2, 2);
        x.remove(0, 1);
        x.remove(0, 2);
        Due.due(15, "flush", 0, x.flush(0));
        Due.statements(15, x, "D2 D1");
    }

    private static void kindsInOrder() {
        SessionDesk x = new SessionDesk();
        persist(x, 0, 0, -1, 1, 0, 2, -1);
        x.commit(0);
        x.remove(0, 0);
        persist(x, 0, 9, 2);
        x.write(0, 1, 2, 9);
        Due.due(15, "flush", 0, x.flush(0));
        Due.statements(15, x, "I9 U1 D0");
        Due.due(15, "read(0, 0, 4)", 0, x.read(0, 0, 4));
        Due.due(15, "row(0, 5)", 0, x.row(0, 5));
        Due.due(15, "row(2, 5)", -1, x.row(2, 5));
        persist(x, 0, 0, 1);
        Due.due(15, "commit of a row deleted before", 0, x.commit(0));
        Due.statements(15, x, "I0");
        Due.row(15, x, 0, "0 0 1 0");
    }

    private static void unsaved() {
        SessionDesk x = new SessionDesk();
        Due.commitRow(x, 4, 7, 8, -1);
        x.get(0, 4);
        x.make(0, 5, 0, 0, -1);
        x.make(0, 6, 0, 0, 5);
        Due.due(15, "flush: only a TRANSIENT one LINKs to it", 0, x.flush(0));
        x.write(0, 4, 0, 1);
        Due.due(15, "flush", 0, x.flush(0));
        Due.due(15, "row(4, 5)", 0, x.row(4, 5));
        x.write(0, 4, 2, 5);
        Due.due(15, "flush: a DIRTY one LINKs to it", -7, x.flush(0));
        Due.statements(18, x, "");
        Due.due(15, "read(0, 4, 4)", Due.BROKEN_LONG, x.read(0, 4, 4));
        Due.due(15, "row(4, 5)", -1, x.row(4, 5));
        Due.row(15, x, 4, "7 8 -1 0");
        x.rollback(0);
        persist(x, 0, 1, 2);
        persist(x, 0, 0, -1);
        x.make(0, 2, 0, 0, -1);
        Due.due(15, "flush: a NEW one LINKs to it", -7, x.flush(0));
        Due.statements(18, x, "");
        x.rollback(0);
        persist(x, 0, 1, 0);
        x.make(0, 0, 0, 0, -1);
        Due.due(15, "flush: a NEW one LINKs to row 0", -7, x.flush(0));
        x.rollback(0);
        x.get(0, 4);
        x.write(0, 4, 2, 5);
        x.make(0, 5, 0, 0, -1);
        x.remove(0, 4);
        Due.due(15, "flush: a REMOVED one LINKs to it", 0, x.flush(0));
        Due.statements(15, x, "D4");
    }

    private static void up() {
        SessionDesk x = new SessionDesk();
        Due.commitRow(x, 4, 7, 8, -1);
        x.get(0, 4);
        x.make(0, 5, 0, 0, 1);
        x.make(0, 1, 0, 0, 9);
        x.make(0, 9, 0, 0, 5);
        x.make(0, 10, 0, 0, 9);
        x.write(0, 4, 2, 5);
        x.mode(0, true);
        Due.due(15, "flush", 0, x.flush(0));
        Due.statements(15, x, "I1 I5 I9 U4 U1");
        Due.due(15, "read(0, 9, 4)", 4, x.read(0, 9, 4));
        Due.due(15, "read(0, 10, 4)", 1, x.read(0, 10, 4));
        x = new SessionDesk();
        persist(x, 1, 0, 3);
        x.make(1, 3, 0, 0, 2);
        x.make(1, 2, 0, 0, 1);
        x.make(1, 1, 0, 0, -1);
        x.mode(0, true);
        Due.due(15, "commit", 0, x.commit(1));
        Due.statements(15, x, "I1 I2 I3 I0");
        x = new SessionDesk();
        persist(x, 2, 15, 0);
        x.make(2, 0, 0, 0, -1);
        x.mode(0, true);
        Due.due(15, "commit of a LINK to row 0", 0, x.commit(2));
        Due.statements(15, x, "I0 I15");
    }

    private static void duplicate() {
        SessionDesk x = new SessionDesk();
        Due.commitRow(x, 4, 7, 8, -1);
        persist(x, 0, 1, -1, 4, -1, 5, -1);
        Due.due(15, "flush", -5, x.flush(0));
        Due.statements(18, x, "I1");
        Due.row(15, x, 4, "7 8 -1 0");
        Due.due(15, "row(1, 5)", -1, x.row(1, 5));
        x.rollback(0);
        persist(x, 0, 1, -1);
        Due.due(15, "flush", 0, x.flush(0));
        x.detach(0, 1);
        persist(x, 0, 1, -1);
        Due.due(15, "flush of a row of the SIGHT", -5, x.flush(0));
        Due.due(15, "row(1, 5)", -1, x.row(1, 5));
    }

    private static void stale() {
        SessionDesk x = new SessionDesk();
        Due.commitRow(x, 4, 7, 8, -1);
        x.get(0, 4);
        x.get(1, 4);
        x.get(2, 4);
        x.write(0, 4, 0, 1);
        x.commit(0);
        Due.due(15, "flush of one that is not DIRTY", 0, x.flush(1));
        x.write(1, 4, 0, 1);
        Due.due(15, "flush of an older one", -4, x.flush(1));
        Due.statements(18, x, "");
        x.remove(2, 4);
        Due.due(15, "flush of an older one, REMOVED", -4, x.flush(2));
        x.rollback(1);
        x.rollback(2);
        x.get(1, 4);
        x.get(2, 4);
        x.remove(0, 4);
        x.commit(0);
        x.write(1, 4, 0, 2);
        Due.due(15, "flush of one whose row is gone", -4, x.flush(1));
        x.remove(2, 4);
        Due.due(15, "flush of one whose row is gone, REMOVED", -4, x.flush(2));
    }

    private static void busy() {
        SessionDesk x = new SessionDesk();
        Due.commitRow(x, 4, 7, 8, -1);
        for (int s = 0; s < 2; s++) {
            x.get(s, 4);
            x.write(s, 4, 0, s);
        }
        x.get(2, 4);
        x.remove(2, 4);
        Due.due(15, "flush(0)", 0, x.flush(0));
        Due.due(15, "flush(1): UPDATE", -6, x.flush(1));
        Due.due(15, "flush(2): DELETE", -6, x.flush(2));
        Due.due(15, "row(4, 5)", 0, x.row(4, 5));
        Due.due(16, "commit(0)", 0, x.commit(0));
        Due.row(15, x, 4, "0 8 -1 1");
        x.rollback(1);
        persist(x, 1, 9, -1);
        persist(x, 0, 9, -1);
        Due.due(15, "flush(1)", 0, x.flush(1));
        Due.due(15, "flush(0): INSERT", -6, x.flush(0));
        x.rollback(1);
        x.rollback(0);
        persist(x, 0, 9, -1);
        Due.due(15, "flush(0), not LOCKED any more", 0, x.flush(0));
    }

    private static void busyComesFirst() {
        SessionDesk x = new SessionDesk();
        Due.commitRow(x, 4, 7, 8, -1);
        x.get(1, 4);
        x.get(0, 4);
        x.write(0, 4, 0, 1);
        x.commit(0);
        x.write(0, 4, 0, 2);
        x.flush(0);
        x.write(1, 4, 0, 9);
        Due.due(15, "flush of an older one, LOCKED", -6, x.flush(1));
        persist(x, 2, 4, -1);
        Due.due(15, "flush of an INSERT of a row that is there, LOCKED", -6, x.flush(2));
        x.rollback(2);
        x.remove(0, 4);
        Due.due(15, "flush(0)", 0, x.flush(0));
        x.get(2, 4);
        x.remove(2, 4);
        Due.due(15, "flush of a DELETE of a row deleted by another", -6, x.flush(2));
    }

    private static void foreign() {
        SessionDesk x = new SessionDesk();
        persist(x, 0, 1, 12);
        Due.due(15, "flush of a LINK to no row", -8, x.flush(0));
        Due.statements(18, x, "I1");
        x.rollback(0);
        Due.commitRow(x, 4, 7, 8, -1);
        Due.commitRow(x, 5, 7, 8, 4);
        x.get(0, 4);
        x.remove(0, 4);
        Due.due(15, "flush of a DELETE of a row with a LINK to it", -8, x.flush(0));
        Due.statements(18, x, "D4");
        x.rollback(0);
        x.get(0, 4);
        x.get(0, 5);
        x.remove(0, 4);
        x.write(0, 5, 2, 5);
        Due.due(15, "flush", 0, x.flush(0));
        x.write(0, 5, 2, 4);
        Due.due(15, "flush of a LINK to a row that the session deleted", -8, x.flush(0));
        Due.row(15, x, 5, "7 8 4 0");
        Due.row(15, x, 4, "7 8 -1 0");
        persist(x, 1, 12, -1);
        Due.due(15, "flush(1)", 0, x.flush(1));
        persist(x, 2, 13, 12);
        Due.due(15, "flush of a LINK to a row of another SIGHT", -8, x.flush(2));
    }

    private static void foreignByOthers() {
        SessionDesk x = new SessionDesk();
        Due.commitRow(x, 4, 7, 8, -1);
        persist(x, 0, 5, 4);
        Due.due(15, "flush(0)", 0, x.flush(0));
        x.get(1, 4);
        x.remove(1, 4);
        Due.due(15, "flush(1)", 0, x.flush(1));
        Due.due(16, "commit(0)", 0, x.commit(0));
        Due.due(15, "flush(1), without a STATEMENT", -8, x.flush(1));
        Due.statements(18, x, "");
        Due.row(15, x, 4, "7 8 -1 0");
        Due.row(15, x, 5, "5 0 4 0");
    }

    private static void whatFailedIsUndone() {
        SessionDesk x = new SessionDesk();
        Due.commitRow(x, 4, 7, 8, -1);
        x.get(0, 4);
        x.write(0, 4, 0, 1);
        Due.due(15, "flush(0)", 0, x.flush(0));
        persist(x, 0, 1, -1, 2, 13);
        x.get(1, 4);
        Due.due(15, "flush(0)", -8, x.flush(0));
        for (int key = 0; key < 16; key++) {
            Due.due(15, "row(" + key + ", 5)", -1, x.row(key, 5));
        }
        Due.row(15, x, 4, "7 8 -1 0");
        Due.row(15, x, 1, "-");
        x.write(1, 4, 1, 2);
        Due.due(15, "commit(1) of a row that was LOCKED", 0, x.commit(1));
        x.rollback(0);
        Due.due(15, "get(0, 1)", -3, x.get(0, 1));
        Due.due(15, "commit(0) of nothing", 0, x.commit(0));
        Due.row(15, x, 4, "7 2 -1 1");
    }

    private static void statement() {
        SessionDesk x = new SessionDesk();
        Due.due(18, "statement(0, 0), no FLUSH", -1, x.statement(0, 0));
        persist(x, 0, 3, -1, 9, 3);
        x.commit(0);
        int[] others = {-1, 2, Integer.MIN_VALUE, Integer.MAX_VALUE};
        for (int n : others) {
            Due.due(18, "statement(0, " + n + ")", -1, x.statement(0, n));
            Due.due(18, "statement(" + n + ", 0)", -1, x.statement(n, 0));
            Due.due(18, "statement(" + n + ", 1)", -1, x.statement(n, 1));
        }
        Due.statements(18, x, "I3 I9");
        x.rollback(0);
        Due.due(18, "flush(5)", -1, x.flush(5));
        Due.statements(18, x, "I3 I9");
        x.flush(1);
        Due.statements(18, x, "");
        Due.breakSession(x, 1, 9);
        x.get(0, 9);
        x.write(0, 9, 0, 1);
        x.find(0, 1, 1);
        Due.statements(18, x, "U9");
        Due.due(18, "flush(1), BROKEN", -2, x.flush(1));
        Due.statements(18, x, "U9");
        x.remove(0, 9);
        x.commit(0);
        Due.statements(18, x, "D9");
    }

    private static void count() {
        SessionDesk x = new SessionDesk();
        int[] others = {-1, 5, Integer.MIN_VALUE, Integer.MAX_VALUE};
        for (int what : others) {
            Due.due(20, "count(" + what + ")", -1, x.count(what));
        }
        persist(x, 0, 1, 2, 2, 1, 3, -1);
        Due.due(15, "flush", 0, x.flush(0));
        Due.counts(20, x, 0, 0, 3, 1, 0);
        x.write(0, 3, 2, 14);
        x.remove(0, 2);
        persist(x, 0, 5, -1);
        Due.due(15, "flush", -8, x.flush(0));
        Due.counts(20, x, 0, 0, 4, 2, 1);
        x.rollback(0);
        Due.counts(20, x, 0, 0, 4, 2, 1);
        x.get(1, 1);
        x.find(1, 0, 0);
        Due.counts(20, x, 2, 0, 4, 2, 1);
    }
}
