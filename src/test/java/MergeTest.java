/** Promise 11 (merge), and what promise 21 says of it. */
public final class MergeTest {
    public static void main(String[] args) {
        no();
        copies();
        loads();
        news();
        stale();
        staleAfterLoading();
        fromABrokenSession();
        Due.end();
    }

    private static SessionDesk oneRow() {
        SessionDesk x = new SessionDesk();
        Due.commitRow(x, 4, 7, 8, -1);
        return x;
    }

    private static void no() {
        SessionDesk x = oneRow();
        x.get(0, 4);
        Due.due(11, "merge(0, 0, 4)", -1, x.merge(0, 0, 4));
        Due.due(11, "merge from none", -1, x.merge(0, 1, 4));
        x.refer(1, 4);
        Due.due(11, "merge from a PROXY", -1, x.merge(0, 1, 4));
        Due.due(11, "read(1, 4, 4)", 3, x.read(1, 4, 4));
        x.remove(1, 4);
        Due.due(11, "merge from a REMOVED one", -1, x.merge(0, 1, 4));
        Due.due(11, "merge to a REMOVED one", -1, x.merge(1, 0, 4));
        Due.due(11, "read(1, 4, 4)", 5, x.read(1, 4, 4));
        Due.entity(11, x, 0, 4, "7 8 -1 0");
        int reads = x.count(0);
        int hits = x.count(1);
        Due.due(11, "merge(2, 1, 4)", -1, x.merge(2, 1, 4));
        Due.due(11, "read(2, 4, 4)", 0, x.read(2, 4, 4));
        Due.counts(11, x, reads, hits);
    }

    private static void copies() {
        SessionDesk x = oneRow();
        x.get(0, 4);
        x.get(1, 4);
        x.write(0, 4, 0, 1);
        x.write(0, 4, 1, 2);
        x.write(0, 4, 2, 4);
        x.write(1, 4, 0, 55);
        Due.due(11, "merge of two MANAGED ones", 0, x.merge(1, 0, 4));
        Due.entity(11, x, 1, 4, "1 2 4 0");
        Due.due(11, "read(1, 4, 5)", 1, x.read(1, 4, 5));
        Due.entity(11, x, 0, 4, "1 2 4 0");
        x.make(2, 4, 5, 6, 3);
        Due.due(11, "merge to a TRANSIENT one", 0, x.merge(2, 0, 4));
        Due.entity(11, x, 2, 4, "1 2 4 0");
        Due.due(11, "read(2, 4, 4)", 1, x.read(2, 4, 4));
        x.persist(2, 4);
        x.write(2, 4, 0, 11);
        Due.due(11, "merge from a NEW one", 0, x.merge(0, 2, 4));
        Due.entity(11, x, 0, 4, "11 2 4 0");
        Due.due(11, "read(0, 4, 4)", 4, x.read(0, 4, 4));
        Due.due(11, "merge to a NEW one", 0, x.merge(2, 1, 4));
        Due.due(11, "read(2, 4, 4)", 2, x.read(2, 4, 4));
        Due.entity(11, x, 2, 4, "1 2 4 0");
    }

    private static void loads() {
        SessionDesk x = oneRow();
        x.make(1, 4, 1, 2, 4);
        Due.due(11, "merge to none", 0, x.merge(0, 1, 4));
        Due.entity(11, x, 0, 4, "1 2 4 0");
        Due.due(11, "read(0, 4, 4)", 4, x.read(0, 4, 4));
        Due.due(11, "read(0, 4, 5)", 1, x.read(0, 4, 5));
        Due.counts(11, x, 0, 1);
        x.refer(2, 4);
        Due.due(11, "merge to a PROXY", 0, x.merge(2, 0, 4));
        Due.due(11, "read(2, 4, 4)", 4, x.read(2, 4, 4));
        Due.entity(11, x, 2, 4, "1 2 4 0");
        Due.due(11, "commit", 0, x.commit(2));
        Due.row(11, x, 4, "1 2 4 1");
        Due.counts(11, x, 0, 2);
    }

    private static void news() {
        SessionDesk x = new SessionDesk();
        x.make(1, 4, 1, 2, 4);
        Due.due(11, "merge of a TRANSIENT one, of no row, to none", 0, x.merge(0, 1, 4));
        Due.due(11, "read(0, 4, 4)", 2, x.read(0, 4, 4));
        Due.entity(11, x, 0, 4, "1 2 4 0");
        Due.due(11, "read(1, 4, 4)", 1, x.read(1, 4, 4));
        Due.counts(11, x, 1, 0);
        x.persist(1, 4);
        x.refer(2, 4);
        Due.due(11, "merge of a NEW one, of no row, to a PROXY", 0, x.merge(2, 1, 4));
        Due.due(11, "read(2, 4, 4)", 2, x.read(2, 4, 4));
        Due.counts(11, x, 2, 0);
        Due.due(11, "commit", 0, x.commit(2));
        Due.row(11, x, 4, "1 2 4 0");
    }

    private static void stale() {
        SessionDesk x = oneRow();
        x.get(0, 4);
        x.get(1, 4);
        x.write(1, 4, 0, 1);
        x.commit(1);
        x.write(0, 4, 1, 99);
        Due.due(11, "merge of an older one", -4, x.merge(1, 0, 4));
        Due.entity(11, x, 1, 4, "1 8 -1 1");
        Due.due(11, "merge of a newer one", -4, x.merge(0, 1, 4));
        Due.entity(11, x, 0, 4, "7 99 -1 0");
        x.remove(1, 4);
        x.commit(1);
        Due.due(11, "merge of a MANAGED one, whose row is gone, to none", -4, x.merge(2, 0, 4));
        Due.due(11, "read(2, 4, 4)", 0, x.read(2, 4, 4));
        x.refer(2, 4);
        Due.due(11, "merge of a MANAGED one, whose row is gone, to a PROXY", -4, x.merge(2, 0, 4));
        Due.due(11, "read(2, 4, 4)", 3, x.read(2, 4, 4));
        Due.counts(11, x, 2, 2);
        x.make(1, 4, 3, 3, -1);
        Due.due(11, "merge of a TRANSIENT one, without a VERSION", 0, x.merge(0, 1, 4));
        Due.entity(11, x, 0, 4, "3 3 -1 0");
    }

    private static void staleAfterLoading() {
        SessionDesk x = oneRow();
        x.get(0, 4);
        x.get(1, 4);
        x.write(1, 4, 0, 1);
        x.commit(1);
        Due.due(11, "merge of an older one to none", -4, x.merge(2, 0, 4));
        Due.due(21, "read(2, 4, 4): what was LOADED stays so", 4, x.read(2, 4, 4));
        Due.entity(21, x, 2, 4, "1 8 -1 1");
        Due.due(21, "read(2, 4, 5)", 0, x.read(2, 4, 5));
        x.detach(2, 4);
        x.refer(2, 4);
        Due.due(11, "merge of an older one to a PROXY", -4, x.merge(2, 0, 4));
        Due.due(21, "read(2, 4, 4)", 4, x.read(2, 4, 4));
    }

    private static void fromABrokenSession() {
        SessionDesk x = oneRow();
        x.make(0, 5, 1, 2, 12);
        x.persist(0, 5);
        x.get(0, 4);
        x.write(0, 4, 0, 9);
        x.make(0, 6, 6, 6, -1);
        x.persist(0, 6);
        Due.due(15, "flush", -8, x.flush(0));
        Due.due(11, "merge of one that stayed NEW", 0, x.merge(1, 0, 6));
        Due.due(11, "read(1, 6, 4)", 2, x.read(1, 6, 4));
        x.get(1, 4);
        Due.due(11, "merge of one that kept its VERSION", 0, x.merge(1, 0, 4));
        Due.entity(11, x, 1, 4, "9 8 -1 0");
    }
}
