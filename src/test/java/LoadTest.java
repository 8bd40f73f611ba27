/** The terms LOAD, CACHE and TOUCH, as promises 5 to 8, 19 and 20 use them; 12 (refresh); of 21 what it says of loading. */
public final class LoadTest {
    public static void main(String[] args) {
        cache();
        cacheAndLocks();
        cacheIsNotGivenBack();
        sight();
        batch();
        batchWithHits();
        batchLost();
        loadingAloneIsNoBatch();
        refresh();
        refreshAndCache();
        Due.end();
    }

    /** A row 4 (7 8 -1 0) that is there, but not in the cache: a rollback of a write took it out. */
    private static SessionDesk uncached() {
        SessionDesk x = new SessionDesk();
        Due.commitRow(x, 4, 7, 8, -1);
        uncache(x, 4);
        return x;
    }

    private static void uncache(SessionDesk x, int key) {
        x.find(2, 2, (int) x.row(key, 2));
        x.write(2, key, 0, (int) x.row(key, 0) + 1);
        x.flush(2);
        x.rollback(2);
        Due.due(19, "row(" + key + ", 6)", 0, x.row(key, 6));
        Due.due(19, "row(" + key + ", 5)", -1, x.row(key, 5));
    }

    private static void cache() {
        SessionDesk x = uncached();
        int reads = x.count(0);
        Due.due(5, "get(0, 4)", 0, x.get(0, 4));
        Due.counts(20, x, reads + 1, 0);
        Due.due(19, "row(4, 6) after get", 1, x.row(4, 6));
        Due.due(5, "get(1, 4)", 0, x.get(1, 4));
        Due.counts(20, x, reads + 1, 1);
        Due.entity(5, x, 1, 4, "7 8 -1 0");
        x.get(1, 4);
        Due.counts(20, x, reads + 1, 1);
        x.get(0, 9);
        Due.due(19, "row(9, 6) of a row that is not there", 0, x.row(9, 6));
        x = uncached();
        x.refer(0, 4);
        x.read(0, 4, 1);
        Due.due(19, "row(4, 6) after a TOUCH", 1, x.row(4, 6));
        x = uncached();
        reads = x.count(0);
        x.find(0, 0, 7);
        Due.due(19, "row(4, 6) after find", 0, x.row(4, 6));
        Due.counts(20, x, reads + 1, 0);
        x = uncached();
        x.make(1, 4, 1, 1, -1);
        x.merge(0, 1, 4);
        Due.due(19, "row(4, 6) after merge", 1, x.row(4, 6));
    }

    private static void cacheAndLocks() {
        SessionDesk x = new SessionDesk();
        Due.commitRow(x, 4, 7, 8, -1);
        x.get(0, 4);
        x.write(0, 4, 0, 9);
        Due.due(19, "row(4, 6) before the flush", 1, x.row(4, 6));
        x.flush(0);
        Due.due(19, "row(4, 6) of a WRITTEN row", 0, x.row(4, 6));
        Due.due(5, "get by another session", 0, x.get(1, 4));
        Due.entity(5, x, 1, 4, "7 8 -1 0");
        Due.due(19, "row(4, 6) of a LOCKED row", 0, x.row(4, 6));
        x.detach(0, 4);
        x.get(0, 4);
        Due.due(19, "row(4, 6) of a row LOCKED by the session itself", 0, x.row(4, 6));
        Due.counts(20, x, 2, 1);
        x.commit(0);
        Due.due(19, "row(4, 6) after the commit", 1, x.row(4, 6));
        Due.due(7, "read(1, 4, 0) stays", 7, x.read(1, 4, 0));
        x.detach(1, 4);
        x.get(1, 4);
        Due.entity(5, x, 1, 4, "9 8 -1 1");
        Due.counts(20, x, 2, 2);
        x.remove(1, 4);
        Due.due(19, "row(4, 6) before the delete", 1, x.row(4, 6));
        x.flush(1);
        Due.due(19, "row(4, 6) after the delete", 0, x.row(4, 6));
        x.commit(1);
        Due.due(19, "row(4, 6) after the commit of the delete", 0, x.row(4, 6));
    }

    private static void cacheIsNotGivenBack() {
        SessionDesk x = new SessionDesk();
        Due.commitRow(x, 4, 7, 8, -1);
        Due.commitRow(x, 5, 1, 1, -1);
        x.get(0, 4);
        x.write(0, 4, 0, 9);
        x.write(0, 4, 2, 12);
        Due.due(15, "flush", -8, x.flush(0));
        Due.due(19, "row(4, 6) after a flush that failed", 0, x.row(4, 6));
        x.rollback(0);
        Due.due(19, "row(4, 6) after the rollback", 0, x.row(4, 6));
        Due.breakSession(x, 1, 5);
        Due.due(19, "row(5, 6), whose INSERT was not done", 1, x.row(5, 6));
    }

    private static void sight() {
        SessionDesk x = new SessionDesk();
        x.make(0, 4, 1, 2, -1);
        x.persist(0, 4);
        x.flush(0);
        x.detach(0, 4);
        Due.due(5, "get of a row of the SIGHT alone", 0, x.get(0, 4));
        Due.due(5, "get by another session", -3, x.get(1, 4));
        x.commit(0);
        Due.due(5, "get by another session after the commit", 0, x.get(1, 4));
        x.remove(0, 4);
        x.flush(0);
        Due.due(5, "get of a row that the session deleted", -3, x.get(0, 4));
        Due.due(5, "get by another session, of a row deleted but not committed", 0, x.get(2, 4));
        x.commit(0);
        x.detach(2, 4);
        Due.due(5, "get of a deleted row", -3, x.get(2, 4));
    }

    private static SessionDesk fourRows() {
        SessionDesk x = new SessionDesk();
        for (int key = 2; key <= 8; key += 2) {
            Due.commitRow(x, key, key, key, -1);
        }
        x.mode(2, true);
        return x;
    }

    private static void batch() {
        SessionDesk x = fourRows();
        for (int key = 2; key <= 8; key += 2) {
            uncache(x, key);
        }
        int reads = x.count(0);
        int hits = x.count(1);
        for (int key = 2; key <= 8; key += 2) {
            x.refer(0, key);
            x.refer(1, key);
        }
        Due.due(7, "read(0, 4, 0)", 4, x.read(0, 4, 0));
        Due.due(7, "read(0, 2, 4)", 4, x.read(0, 2, 4));
        Due.due(7, "read(0, 6, 4)", 4, x.read(0, 6, 4));
        Due.due(7, "read(0, 8, 4)", 3, x.read(0, 8, 4));
        Due.due(7, "read(1, 2, 4), another session", 3, x.read(1, 2, 4));
        Due.counts(20, x, reads + 1, hits);
        Due.due(19, "row(2, 6)", 1, x.row(2, 6));
        Due.due(19, "row(8, 6)", 0, x.row(8, 6));
        Due.due(5, "get(1, 8)", 0, x.get(1, 8));
        Due.due(7, "read(1, 4, 4)", 4, x.read(1, 4, 4));
        Due.due(7, "read(1, 6, 4)", 3, x.read(1, 6, 4));
        Due.counts(20, x, reads + 2, hits + 2);
        x.refer(2, 8);
        Due.due(5, "get of the only PROXY", 0, x.get(2, 8));
        Due.counts(20, x, reads + 2, hits + 3);
        x.refer(2, 15);
        x.refer(2, 2);
        Due.due(5, "get(2, 2), beside one that can't be loaded", 0, x.get(2, 2));
        Due.due(7, "read(2, 15, 4)", 3, x.read(2, 15, 4));
        Due.counts(20, x, reads + 3, hits + 4);
    }

    private static void batchWithHits() {
        SessionDesk x = fourRows();
        x.refer(0, 2);
        x.refer(0, 4);
        x.refer(0, 6);
        Due.due(8, "write(0, 6, 0, 1)", 0, x.write(0, 6, 0, 1));
        Due.counts(20, x, 0, 3);
        Due.due(7, "read(0, 2, 4)", 4, x.read(0, 2, 4));
        Due.due(7, "read(0, 4, 4)", 4, x.read(0, 4, 4));
        x.refer(0, 0);
        x.refer(0, 1);
        x.refer(0, 8);
        Due.due(5, "get(0, 8) of a HIT, beside two that can't be loaded", 0, x.get(0, 8));
        Due.counts(20, x, 1, 4);
        Due.due(7, "read(0, 0, 4)", 3, x.read(0, 0, 4));
        Due.due(7, "read(0, 1, 4)", 3, x.read(0, 1, 4));
        x = fourRows();
        x.refer(0, 1);
        x.refer(0, 3);
        x.refer(0, 4);
        x.refer(0, 6);
        x.get(0, 4);
        Due.due(7, "read(0, 6, 4), behind two that can't be loaded", 3, x.read(0, 6, 4));
        Due.counts(20, x, 1, 1);
    }

    private static void batchLost() {
        SessionDesk x = fourRows();
        x.refer(0, 2);
        x.refer(0, 4);
        x.refer(0, 5);
        Due.due(5, "get(0, 5)", -3, x.get(0, 5));
        Due.due(7, "read(0, 2, 4)", 3, x.read(0, 2, 4));
        Due.due(7, "read(0, 5, 4)", 3, x.read(0, 5, 4));
        Due.counts(20, x, 1, 0);
        Due.due(9, "remove(0, 5)", -3, x.remove(0, 5));
        Due.due(7, "read(0, 2, 4)", 3, x.read(0, 2, 4));
        Due.counts(20, x, 2, 0);
        Due.due(9, "remove(0, 4)", 0, x.remove(0, 4));
        Due.due(7, "read(0, 2, 4)", 4, x.read(0, 2, 4));
        Due.counts(20, x, 3, 2);
    }

    private static void loadingAloneIsNoBatch() {
        SessionDesk x = fourRows();
        x.refer(0, 2);
        x.refer(0, 4);
        Due.due(5, "get of none", 0, x.get(0, 6));
        Due.due(7, "read(0, 2, 4)", 3, x.read(0, 2, 4));
        x.make(1, 4, 0, 0, -1);
        Due.due(11, "merge loads by itself", 0, x.merge(0, 1, 4));
        Due.due(7, "read(0, 2, 4)", 3, x.read(0, 2, 4));
        x.refer(0, 8);
        Due.due(12, "refresh(0, 8)", 0, x.refresh(0, 8));
        Due.due(7, "read(0, 2, 4)", 3, x.read(0, 2, 4));
    }

    private static void refresh() {
        SessionDesk x = new SessionDesk();
        Due.commitRow(x, 4, 7, 8, -1);
        Due.due(12, "refresh of none", -1, x.refresh(0, 4));
        x.refer(0, 4);
        Due.due(12, "refresh of a PROXY", 0, x.refresh(0, 4));
        Due.entity(12, x, 0, 4, "7 8 -1 0");
        Due.counts(12, x, 1, 0);
        x.write(0, 4, 0, 1);
        Due.due(12, "refresh of a DIRTY one", 0, x.refresh(0, 4));
        Due.entity(12, x, 0, 4, "7 8 -1 0");
        Due.due(12, "read(0, 4, 5)", 0, x.read(0, 4, 5));
        x.get(1, 4);
        x.write(1, 4, 1, 3);
        x.flush(1);
        Due.due(12, "refresh beside a LOCK", 0, x.refresh(0, 4));
        Due.entity(12, x, 0, 4, "7 8 -1 0");
        x.write(1, 4, 0, 5);
        Due.due(12, "refresh of what the session wrote", 0, x.refresh(1, 4));
        Due.entity(12, x, 1, 4, "7 3 -1 1");
        x.commit(1);
        Due.due(12, "refresh after the commit", 0, x.refresh(0, 4));
        Due.entity(12, x, 0, 4, "7 3 -1 1");
        x.remove(1, 4);
        Due.due(12, "refresh of a REMOVED one", -1, x.refresh(1, 4));
        x.commit(1);
        x.write(0, 4, 0, 6);
        int reads = x.count(0);
        Due.due(12, "refresh of a row that is gone", -3, x.refresh(0, 4));
        Due.entity(12, x, 0, 4, "6 3 -1 1");
        Due.due(12, "read(0, 4, 5)", 1, x.read(0, 4, 5));
        x.refer(0, 9);
        Due.due(12, "refresh of a PROXY, of no row", -3, x.refresh(0, 9));
        Due.due(12, "read(0, 9, 4)", 3, x.read(0, 9, 4));
        Due.counts(12, x, reads + 2);
        x.make(0, 10, 0, 0, -1);
        Due.due(12, "refresh of a TRANSIENT one", -1, x.refresh(0, 10));
        x.persist(0, 10);
        Due.due(12, "refresh of a NEW one", -1, x.refresh(0, 10));
        Due.counts(12, x, reads + 2);
    }

    private static void refreshAndCache() {
        SessionDesk x = uncached();
        x.refer(0, 4);
        x.refresh(0, 4);
        Due.due(12, "row(4, 6) after refresh", 1, x.row(4, 6));
        x.write(0, 4, 0, 2);
        x.flush(0);
        x.refresh(0, 4);
        Due.due(12, "row(4, 6) after refresh of a LOCKED row", 0, x.row(4, 6));
    }
}
