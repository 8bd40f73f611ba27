/** Promises 13 (find) and 14 (found), and what promise 21 says of find. */
public final class FindTest {
    public static void main(String[] args) {
        find();
        findManages();
        findFlushes();
        findFails();
        errorsBeforeTheFlush();
        found();
        Due.end();
    }

    private static SessionDesk threeRows() {
        SessionDesk x = new SessionDesk();
        Due.commitRow(x, 9, 1, 2, -1);
        Due.commitRow(x, 4, 1, 3, 9);
        Due.commitRow(x, 15, 2, 1, 9);
        return x;
    }

    private static void find() {
        SessionDesk x = threeRows();
        Due.due(13, "find(0, 0, 1)", 2, x.find(0, 0, 1));
        Due.due(14, "found(0)", 4, x.found(0));
        Due.due(14, "found(1)", 9, x.found(1));
        Due.due(14, "found(2)", -1, x.found(2));
        Due.due(13, "find(0, 1, 1)", 1, x.find(0, 1, 1));
        Due.due(14, "found(0)", 15, x.found(0));
        Due.due(14, "found(1)", -1, x.found(1));
        Due.due(13, "find(0, 2, 9)", 2, x.find(0, 2, 9));
        Due.due(13, "find(0, 2, -1)", 1, x.find(0, 2, -1));
        Due.due(14, "found(0)", 9, x.found(0));
        Due.due(13, "find(0, 2, 77)", 0, x.find(0, 2, 77));
        Due.due(14, "found(0)", -1, x.found(0));
        Due.due(13, "find(0, 0, 0)", 0, x.find(0, 0, 0));
        Due.counts(13, x, 6, 0);
    }

    private static void findManages() {
        SessionDesk x = threeRows();
        x.refer(0, 4);
        x.refer(0, 15);
        x.mode(2, true);
        Due.due(13, "find(0, 0, 1)", 2, x.find(0, 0, 1));
        Due.due(13, "read(0, 4, 4)", 4, x.read(0, 4, 4));
        Due.due(13, "read(0, 9, 4)", 4, x.read(0, 9, 4));
        Due.due(13, "read(0, 15, 4)", 3, x.read(0, 15, 4));
        Due.entity(13, x, 0, 4, "1 3 9 0");
        Due.counts(13, x, 1, 0);
        x = threeRows();
        x.get(0, 4);
        x.get(1, 4);
        x.write(1, 4, 1, 33);
        x.commit(1);
        Due.due(13, "find(0, 1, 33)", 1, x.find(0, 1, 33));
        Due.entity(13, x, 0, 4, "1 3 9 0");
        x.make(0, 9, 5, 5, 5);
        Due.due(13, "find(0, 1, 2)", 1, x.find(0, 1, 2));
        Due.due(13, "read(0, 9, 4): a TRANSIENT one stays", 1, x.read(0, 9, 4));
        Due.entity(13, x, 0, 9, "5 5 5 0");
    }

    private static void findFlushes() {
        SessionDesk x = threeRows();
        x.get(0, 4);
        x.write(0, 4, 0, 50);
        x.make(0, 1, 50, 0, -1);
        x.persist(0, 1);
        x.get(0, 15);
        x.remove(0, 15);
        Due.due(13, "find(0, 0, 50)", 2, x.find(0, 0, 50));
        Due.statements(13, x, "I1 U4 D15");
        Due.due(14, "found(0)", 1, x.found(0));
        Due.due(14, "found(1)", 4, x.found(1));
        Due.due(13, "find(0, 0, 2)", 0, x.find(0, 0, 2));
        Due.statements(13, x, "");
        Due.due(13, "read(0, 15, 4)", 0, x.read(0, 15, 4));
        Due.due(13, "find(1, 0, 50): another SIGHT", 0, x.find(1, 0, 50));
        Due.due(13, "find(1, 0, 2)", 1, x.find(1, 0, 2));
        Due.row(13, x, 1, "-");
        x.commit(0);
        Due.due(13, "find(1, 0, 50) after the commit", 2, x.find(1, 0, 50));
        Due.due(13, "find(1, 0, 2) after the commit", 0, x.find(1, 0, 2));
    }

    private static void findFails() {
        SessionDesk x = threeRows();
        x.find(1, 2, 9);
        int reads = x.count(0);
        x.make(0, 4, 0, 0, -1);
        x.persist(0, 4);
        Due.due(13, "find(0, 0, 1)", -5, x.find(0, 0, 1));
        Due.counts(13, x, reads);
        Due.due(14, "found(1) of the latest that was no error", 15, x.found(1));
        Due.due(13, "find, BROKEN", -2, x.find(0, 0, 1));
        Due.due(14, "found(1)", 15, x.found(1));
        Due.due(14, "found(0)", 4, x.found(0));
    }

    private static void errorsBeforeTheFlush() {
        SessionDesk x = threeRows();
        x.find(1, 2, 9);
        x.make(0, 1, 0, 0, -1);
        x.persist(0, 1);
        int[] others = {-1, 3, Integer.MIN_VALUE, Integer.MAX_VALUE};
        for (int what : others) {
            Due.due(21, "find(0, " + what + ", 0)", -1, x.find(0, what, 0));
        }
        Due.due(21, "find(3, 0, 0)", -1, x.find(3, 0, 0));
        Due.due(21, "read(0, 1, 4): there was no FLUSH", 2, x.read(0, 1, 4));
        Due.due(21, "found(0) stays", 4, x.found(0));
        Due.counts(21, x, 1, 0, 3, 0, 0);
        x.make(0, 4, 0, 0, -1);
        x.persist(0, 4);
        Due.due(15, "flush(0)", -5, x.flush(0));
        Due.statements(21, x, "I1");
        Due.due(21, "find, BROKEN", -2, x.find(0, 0, 0));
        Due.statements(21, x, "I1");
    }

    private static void found() {
        SessionDesk x = new SessionDesk();
        Due.due(14, "found(0), nothing was asked for", -1, x.found(0));
        for (int key = 0; key < 16; key++) {
            x.make(0, key, 5, 0, -1);
            x.persist(0, key);
        }
        Due.due(13, "find(0, 0, 5) of all rows", 16, x.find(0, 0, 5));
        for (int k = 0; k < 16; k++) {
            Due.due(14, "found(" + k + ")", k, x.found(k));
        }
        int[] none = {-1, 16, Integer.MIN_VALUE, Integer.MAX_VALUE};
        for (int k : none) {
            Due.due(14, "found(" + k + ")", -1, x.found(k));
        }
        x.rollback(0);
        Due.due(14, "found(15) after a rollback", 15, x.found(15));
        Due.due(13, "find(0, 0, 5) then", 0, x.find(0, 0, 5));
        Due.due(14, "found(0)", -1, x.found(0));
    }
}
