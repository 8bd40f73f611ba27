/** Promise 9 (remove), and what promise 21 says of it. */
public final class RemoveTest {
    public static void main(String[] args) {
        states();
        proxies();
        down();
        downInASession();
        downSeesTheSight();
        downDoesNotCache();
        downTakesNewOnesAndStopsThere();
        downOff();
        Due.end();
    }

    private static void states() {
        SessionDesk x = new SessionDesk();
        Due.commitRow(x, 4, 7, 8, -1);
        Due.due(9, "remove of none", -1, x.remove(0, 4));
        x.make(0, 5, 0, 0, -1);
        Due.due(9, "remove of a TRANSIENT one", -1, x.remove(0, 5));
        Due.due(9, "read(0, 5, 4)", 1, x.read(0, 5, 4));
        x.persist(0, 5);
        Due.due(9, "remove of a NEW one", 0, x.remove(0, 5));
        Due.due(9, "read(0, 5, 4)", 1, x.read(0, 5, 4));
        x.get(0, 4);
        x.write(0, 4, 0, 3);
        Due.due(9, "remove of a MANAGED one", 0, x.remove(0, 4));
        Due.due(9, "read(0, 4, 4)", 5, x.read(0, 4, 4));
        Due.due(9, "remove of a REMOVED one", 0, x.remove(0, 4));
        Due.due(9, "read(0, 4, 4)", 5, x.read(0, 4, 4));
        Due.row(9, x, 4, "7 8 -1 0");
        Due.due(9, "commit", 0, x.commit(0));
        Due.statements(9, x, "D4");
        Due.row(9, x, 4, "-");
        Due.due(9, "read(0, 4, 4)", 0, x.read(0, 4, 4));
    }

    private static void proxies() {
        SessionDesk x = new SessionDesk();
        Due.commitRow(x, 4, 7, 8, -1);
        x.find(0, 0, 7);
        x.write(0, 4, 0, 1);
        x.flush(0);
        x.rollback(0);
        x.refer(0, 4);
        int reads = x.count(0);
        Due.due(9, "remove of a PROXY", 0, x.remove(0, 4));
        Due.due(9, "read(0, 4, 4)", 5, x.read(0, 4, 4));
        Due.counts(9, x, reads + 1, 0);
        Due.due(21, "row(4, 6): remove TOUCHES as others do", 1, x.row(4, 6));
        x.refer(0, 5);
        Due.due(9, "remove of a PROXY that is LOST", -3, x.remove(0, 5));
        Due.due(9, "read(0, 5, 4)", 3, x.read(0, 5, 4));
        Due.counts(9, x, reads + 2, 0);
    }

    /** 0 <- 1 <- 3, 0 <- 2, 4 <- 4, 4 <- 5, all committed and in the cache. */
    private static SessionDesk tree() {
        SessionDesk x = new SessionDesk();
        Due.commitRow(x, 0, 0, 0, -1);
        Due.commitRow(x, 1, 1, 0, 0);
        Due.commitRow(x, 2, 2, 0, 0);
        Due.commitRow(x, 3, 3, 0, 1);
        Due.commitRow(x, 4, 4, 0, 4);
        Due.commitRow(x, 5, 5, 0, 4);
        x.mode(1, true);
        return x;
    }

    private static void states(SessionDesk x, int s, String want) {
        StringBuilder got = new StringBuilder();
        for (int key = 0; key < want.length(); key++) {
            got.append(x.read(s, key, 4));
        }
        Due.text(9, "what the entities of session " + s + " are", want, got.toString());
    }

    private static void down() {
        SessionDesk x = tree();
        x.get(0, 0);
        x.refer(0, 3);
        x.refer(0, 5);
        Due.due(9, "remove(0, 0)", 0, x.remove(0, 0));
        states(x, 0, "555503");
        Due.counts(9, x, 4, 1);
        Due.entity(9, x, 0, 3, "3 0 1 0");
        Due.due(9, "remove(0, 0) again", 0, x.remove(0, 0));
        Due.counts(9, x, 4, 1);
        Due.due(9, "commit", 0, x.commit(0));
        Due.statements(9, x, "D2 D3 D1 D0");
        x = tree();
        x.get(0, 4);
        Due.due(9, "remove of one that LINKs to itself", 0, x.remove(0, 4));
        states(x, 0, "000055");
        Due.counts(9, x, 2, 1);
        Due.due(9, "commit", 0, x.commit(0));
        Due.statements(9, x, "D5 D4");
        x = tree();
        x.refer(0, 3);
        Due.due(9, "remove of a PROXY to which none LINKs", 0, x.remove(0, 3));
        Due.counts(9, x, 1, 1);
        states(x, 0, "000500");
    }

    private static void downInASession() {
        SessionDesk x = tree();
        x.get(0, 0);
        x.get(0, 1);
        x.get(0, 5);
        x.write(0, 1, 2, 4);
        x.write(0, 5, 2, 0);
        x.make(0, 7, 0, 0, 0);
        Due.due(9, "remove(0, 0)", 0, x.remove(0, 0));
        states(x, 0, "54500501");
        Due.counts(9, x, 3, 3);
        x.persist(0, 5);
        x.write(0, 5, 2, 2);
        x.get(1, 1);
        x.get(1, 2);
        x.remove(1, 2);
        states(x, 1, "04500000");
        states(x, 0, "54500401");
    }

    private static void downSeesTheSight() {
        SessionDesk x = tree();
        x.get(0, 3);
        x.write(0, 3, 2, 2);
        x.get(0, 1);
        x.remove(0, 1);
        Due.due(9, "flush(0)", 0, x.flush(0));
        x.detach(0, 3);
        x.make(0, 6, 6, 6, 3);
        x.persist(0, 6);
        Due.due(9, "flush(0)", 0, x.flush(0));
        x.detach(0, 6);
        x.get(0, 0);
        x.remove(0, 0);
        states(x, 0, "5055005");
        Due.entity(9, x, 0, 3, "3 0 2 1");
        x.get(1, 0);
        x.remove(1, 0);
        states(x, 1, "5555000");
    }

    private static void downDoesNotCache() {
        SessionDesk x = tree();
        x.find(0, 0, 1);
        x.write(0, 1, 1, 9);
        x.flush(0);
        x.rollback(0);
        int reads = x.count(0);
        x.get(0, 0);
        x.remove(0, 0);
        Due.due(21, "row(1, 6): rows that DOWN takes do not come into the CACHE", 0, x.row(1, 6));
        Due.due(21, "row(2, 6) stays", 1, x.row(2, 6));
        Due.counts(21, x, reads + 4, 1);
    }

    private static void downTakesNewOnesAndStopsThere() {
        SessionDesk x = tree();
        x.get(0, 3);
        x.make(0, 8, 0, 0, 3);
        x.make(0, 9, 0, 0, 8);
        x.make(0, 10, 0, 0, 3);
        x.persist(0, 8);
        x.persist(0, 9);
        Due.due(9, "remove(0, 3)", 0, x.remove(0, 3));
        states(x, 0, "00050000121");
        Due.counts(9, x, 1, 1);
        x.rollback(0);
        x.make(0, 8, 0, 0, -1);
        x.make(0, 9, 0, 0, 8);
        x.persist(0, 8);
        x.persist(0, 9);
        Due.due(9, "remove of a NEW one", 0, x.remove(0, 8));
        states(x, 0, "0000000012");
        Due.counts(9, x, 1, 1);
    }

    private static void downOff() {
        SessionDesk x = tree();
        x.mode(1, false);
        x.get(0, 0);
        x.get(0, 1);
        Due.due(9, "remove(0, 0), DOWN off", 0, x.remove(0, 0));
        states(x, 0, "540000");
        Due.counts(9, x, 0, 2);
        Due.due(9, "flush", -8, x.flush(0));
    }
}
