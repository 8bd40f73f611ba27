/** Promises 16 (commit), 17 (rollback), 19 (row), and of 21 what it says of row. */
public final class CommitTest {
    public static void main(String[] args) {
        commit();
        commitFails();
        commitOfOneSession();
        rollback();
        rollbackOfABrokenSession();
        row();
        Due.end();
    }

    private static void commit() {
        SessionDesk x = new SessionDesk();
        x.make(0, 4, 1, 2, 4);
        x.make(0, 5, 0, 0, -1);
        x.persist(0, 4);
        x.refer(0, 6);
        Due.due(16, "flush(0)", 0, x.flush(0));
        Due.row(16, x, 4, "-");
        Due.due(16, "row(4, 5)", 0, x.row(4, 5));
        Due.due(16, "commit(0)", 0, x.commit(0));
        Due.row(16, x, 4, "1 2 4 0");
        Due.due(16, "row(4, 5)", -1, x.row(4, 5));
        Due.due(16, "row(4, 6)", 1, x.row(4, 6));
        Due.due(16, "read(0, 4, 4): entities stay", 4, x.read(0, 4, 4));
        Due.due(16, "read(0, 5, 4)", 1, x.read(0, 5, 4));
        Due.due(16, "read(0, 6, 4)", 3, x.read(0, 6, 4));
        x.write(0, 4, 0, 9);
        Due.due(16, "commit(0)", 0, x.commit(0));
        Due.statements(16, x, "U4");
        Due.row(16, x, 4, "9 2 4 1");
        x.remove(0, 4);
        Due.due(16, "commit(0)", 0, x.commit(0));
        Due.row(16, x, 4, "-");
        Due.due(16, "row(4, 6)", 0, x.row(4, 6));
        Due.due(16, "row(4, 5)", -1, x.row(4, 5));
        x.make(0, 7, 1, 1, -1);
        x.persist(0, 7);
        x.flush(0);
        x.remove(0, 7);
        Due.due(16, "commit of an insert and a delete", 0, x.commit(0));
        Due.row(16, x, 7, "-");
        Due.due(16, "row(7, 6)", 0, x.row(7, 6));
        Due.due(16, "commit of nothing", 0, x.commit(0));
        Due.statements(16, x, "");
    }

    private static void commitFails() {
        SessionDesk x = new SessionDesk();
        Due.commitRow(x, 4, 7, 8, -1);
        x.get(0, 4);
        x.write(0, 4, 0, 1);
        x.flush(0);
        x.make(0, 5, 0, 0, 12);
        x.persist(0, 5);
        Due.due(16, "commit(0)", -8, x.commit(0));
        Due.row(16, x, 4, "7 8 -1 0");
        Due.row(16, x, 5, "-");
        Due.due(16, "commit(0), BROKEN", -2, x.commit(0));
        Due.row(16, x, 4, "7 8 -1 0");
    }

    private static void commitOfOneSession() {
        SessionDesk x = new SessionDesk();
        for (int s = 0; s < 2; s++) {
            x.make(s, 4 + s, s, s, -1);
            x.persist(s, 4 + s);
            x.flush(s);
        }
        Due.due(16, "commit(0)", 0, x.commit(0));
        Due.row(16, x, 4, "0 0 -1 0");
        Due.row(16, x, 5, "-");
        Due.due(16, "row(5, 5)", 1, x.row(5, 5));
        x.rollback(0);
        Due.row(16, x, 4, "0 0 -1 0");
        Due.due(16, "row(5, 5)", 1, x.row(5, 5));
    }

    private static void rollback() {
        SessionDesk x = new SessionDesk();
        Due.commitRow(x, 4, 7, 8, -1);
        Due.commitRow(x, 5, 7, 8, -1);
        x.get(1, 4);
        x.get(0, 4);
        x.write(0, 4, 0, 1);
        x.commit(0);
        x.write(0, 4, 0, 2);
        x.get(0, 5);
        x.remove(0, 5);
        x.make(0, 6, 0, 0, -1);
        x.persist(0, 6);
        x.flush(0);
        x.make(0, 7, 0, 0, -1);
        x.refer(0, 8);
        x.make(0, 9, 0, 0, -1);
        x.persist(0, 9);
        Due.due(17, "rollback(0)", 0, x.rollback(0));
        for (int key = 0; key < 16; key++) {
            Due.due(17, "read(0, " + key + ", 4)", 0, x.read(0, key, 4));
            Due.due(17, "row(" + key + ", 5)", -1, x.row(key, 5));
        }
        Due.row(17, x, 4, "1 8 -1 1");
        Due.row(17, x, 5, "7 8 -1 0");
        Due.row(17, x, 6, "-");
        Due.due(17, "get(0, 5)", 0, x.get(0, 5));
        Due.due(17, "get(0, 6)", -3, x.get(0, 6));
        x.get(0, 4);
        Due.entity(17, x, 0, 4, "1 8 -1 1");
        Due.due(17, "read(1, 4, 4) of another session", 4, x.read(1, 4, 4));
        Due.due(17, "commit(0)", 0, x.commit(0));
        Due.statements(17, x, "");
        Due.due(17, "rollback of nothing", 0, x.rollback(2));
    }

    private static void rollbackOfABrokenSession() {
        SessionDesk x = new SessionDesk();
        Due.commitRow(x, 4, 7, 8, -1);
        Due.breakSession(x, 0, 4);
        Due.breakSession(x, 1, 4);
        Due.due(17, "rollback(0)", 0, x.rollback(0));
        Due.due(17, "read(0, 4, 4)", 0, x.read(0, 4, 4));
        Due.due(17, "flush(0)", 0, x.flush(0));
        Due.due(17, "flush(1), still BROKEN", -2, x.flush(1));
    }

    private static void row() {
        SessionDesk x = new SessionDesk();
        Due.commitRow(x, 15, -7, 8, 15);
        int[] keys = {-1, 16, Integer.MIN_VALUE, Integer.MAX_VALUE};
        for (int key : keys) {
            for (int what = -1; what <= 7; what++) {
                Due.due(21, "row(" + key + ", " + what + ")", Due.NO_LONG, x.row(key, what));
            }
        }
        int[] others = {-1, 7, Integer.MIN_VALUE, Integer.MAX_VALUE};
        for (int what : others) {
            Due.due(19, "row(15, " + what + ")", Due.NO_LONG, x.row(15, what));
            Due.due(19, "row(0, " + what + ")", Due.NO_LONG, x.row(0, what));
        }
        for (int what = 0; what <= 3; what++) {
            Due.due(19, "row(0, " + what + ")", Due.NO_LONG, x.row(0, what));
        }
        Due.due(19, "row(0, 4)", 0, x.row(0, 4));
        Due.due(19, "row(15, 0)", -7, x.row(15, 0));
        Due.due(19, "row(15, 1)", 8, x.row(15, 1));
        Due.due(19, "row(15, 2)", 15, x.row(15, 2));
        Due.due(19, "row(15, 3)", 0, x.row(15, 3));
        Due.due(19, "row(15, 4)", 1, x.row(15, 4));
        Due.due(19, "row(15, 5)", -1, x.row(15, 5));
        Due.due(19, "row(15, 6)", 1, x.row(15, 6));
        x.get(2, 15);
        x.write(2, 15, 0, 1);
        x.make(1, 0, 3, 3, -1);
        x.persist(1, 0);
        x.flush(1);
        x.flush(2);
        Due.row(19, x, 15, "-7 8 15 0");
        Due.due(19, "row(15, 5)", 2, x.row(15, 5));
        Due.due(19, "row(0, 4), LOCKED", 0, x.row(0, 4));
        Due.due(19, "row(0, 0), LOCKED", Due.NO_LONG, x.row(0, 0));
        Due.due(19, "row(0, 5)", 1, x.row(0, 5));
        x.commit(2);
        x.remove(2, 15);
        x.flush(2);
        Due.row(19, x, 15, "1 8 15 1");
        Due.due(19, "row(15, 5)", 2, x.row(15, 5));
        x.commit(2);
        Due.due(19, "row(15, 4)", 0, x.row(15, 4));
        Due.due(19, "row(15, 3)", Due.NO_LONG, x.row(15, 3));
    }
}
