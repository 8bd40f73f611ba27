public final class SessionDesk {
    public static final int OK = 0, NO = -1, BROKEN = -2, LOST = -3, STALE = -4, DUPLICATE = -5, BUSY = -6, UNSAVED = -7, FOREIGN = -8;
    public static final long BASE = -10000000000L;

    private static final int SESSIONS = 3, ROWS = 16, ENTITIES = 48;
    // A row and an entity take four cells each, so that one offset serves entities and snapshots.
    private static final int CELLS = 4, ROW_CELLS = 64, ENTITY_CELLS = 192;
    // A NEW one can need two statements, an INSERT and an UPDATE; all others need one.
    private static final int STATEMENTS = 32;
    private static final int MODES = 3, COUNTS = 5;

    private static final int LINK = 2, VERSION = 3;
    private static final int NONE = 0, TRANSIENT = 1, NEW = 2, PROXY = 3, MANAGED = 4, REMOVED = 5;
    private static final int UP = 0, DOWN = 1, BATCH = 2;
    private static final int INSERT = 0, UPDATE = 1, DELETE = 2;
    private static final int READS = 0, HITS = 1, FIRST_STATEMENT_COUNT = 2;
    private static final int FROM_CACHE = 0, FROM_STORE = 1, MISSING = 2;
    private static final int NOBODY = -1, NO_LINK = -1, NO_ROW = -1;
    private static final int BATCHED = 2;

    private final boolean[] modes = new boolean[MODES];
    private final boolean[] broken = new boolean[SESSIONS];
    private final int[] counts = new int[COUNTS];

    private final boolean[] rowThere = new boolean[ROWS];
    private final int[] rowCells = new int[ROW_CELLS];
    // Only one session can lock a row, so one place for what is written and not committed is enough.
    private final int[] lockedBy = new int[ROWS];
    private final boolean[] writtenThere = new boolean[ROWS];
    private final int[] writtenCells = new int[ROW_CELLS];
    // A cached row is never locked, so the cache needs no copy: it always equals the committed row.
    private final boolean[] cached = new boolean[ROWS];

    private final int[] states = new int[ENTITIES];
    private final int[] entityCells = new int[ENTITY_CELLS];
    private final int[] snapshotCells = new int[ENTITY_CELLS];

    private final int[] statementKinds = new int[STATEMENTS];
    private final int[] statementRows = new int[STATEMENTS];
    private int statementCount = 0;
    private final int[] foundRows = new int[ROWS];
    private int foundCount = 0;

    // Lists that are used within one call only.
    private final boolean[] left = new boolean[ROWS];
    private final int[] cutRows = new int[ROWS];
    private int cutCount = 0;
    private final int[] removedRows = new int[ROWS];
    private int removedCount = 0;

    public SessionDesk() {
        for (int key = 0; key < ROWS; key++) {
            lockedBy[key] = NOBODY;
        }
    }

    public boolean mode(int what, boolean on) {
        if (what < 0 || what >= MODES) {
            return false;
        }
        modes[what] = on;
        return true;
    }

    public int make(int s, int key, int a, int b, int link) {
        int error = entityError(s, key);
        if (error != OK) {
            return error;
        }
        int e = s * ROWS + key;
        if (states[e] != NONE || !isLink(link)) {
            return NO;
        }
        states[e] = TRANSIENT;
        entityCells[e * CELLS] = a;
        entityCells[e * CELLS + 1] = b;
        entityCells[e * CELLS + LINK] = link;
        return OK;
    }

    public int persist(int s, int key) {
        int error = entityError(s, key);
        if (error != OK) {
            return error;
        }
        int e = s * ROWS + key;
        if (states[e] == NONE) {
            return NO;
        }
        if (states[e] == REMOVED) {
            states[e] = MANAGED;
        } else if (states[e] == TRANSIENT && modes[UP]) {
            saveChain(s, key);
        } else if (states[e] == TRANSIENT) {
            states[e] = NEW;
        }
        return OK;
    }

    public int get(int s, int key) {
        int error = entityError(s, key);
        if (error != OK) {
            return error;
        }
        int state = states[s * ROWS + key];
        boolean there = state != REMOVED;
        if (state == NONE) {
            there = loadAlone(s, key);
        } else if (state == PROXY) {
            there = touch(s, key);
        }
        return there ? OK : LOST;
    }

    public int refer(int s, int key) {
        int error = entityError(s, key);
        if (error != OK) {
            return error;
        }
        int e = s * ROWS + key;
        if (states[e] == NONE) {
            states[e] = PROXY;
        }
        return OK;
    }

    public long read(int s, int key, int what) {
        int error = entityError(s, key);
        if (error != OK) {
            return error + BASE;
        }
        int e = s * ROWS + key;
        if (what == 4) {
            return states[e];
        }
        if (what == 5) {
            return isDirty(e) ? 1 : 0;
        }
        if (what < 0 || what > VERSION || states[e] == NONE) {
            return NO + BASE;
        }
        if (states[e] == PROXY && !touch(s, key)) {
            return LOST + BASE;
        }
        if (what != VERSION) {
            return entityCells[e * CELLS + what];
        }
        boolean hasSnapshot = states[e] == MANAGED || states[e] == REMOVED;
        return hasSnapshot ? snapshotCells[e * CELLS + VERSION] : 0;
    }

    public int write(int s, int key, int what, int v) {
        int error = entityError(s, key);
        if (error != OK) {
            return error;
        }
        int e = s * ROWS + key;
        if (what < 0 || what > LINK || states[e] == NONE || states[e] == REMOVED) {
            return NO;
        }
        if (what == LINK && !isLink(v)) {
            return NO;
        }
        if (states[e] == PROXY && !touch(s, key)) {
            return LOST;
        }
        entityCells[e * CELLS + what] = v;
        return OK;
    }

    public int remove(int s, int key) {
        int error = entityError(s, key);
        if (error != OK) {
            return error;
        }
        int e = s * ROWS + key;
        if (states[e] == NONE || states[e] == TRANSIENT) {
            return NO;
        }
        if (states[e] == PROXY && !touch(s, key)) {
            return LOST;
        }
        if (states[e] == NEW) {
            states[e] = TRANSIENT;
        } else if (states[e] == MANAGED) {
            removeManaged(s, key);
        }
        return OK;
    }

    public int detach(int s, int key) {
        int error = entityError(s, key);
        if (error != OK) {
            return error;
        }
        int e = s * ROWS + key;
        if (states[e] == NONE) {
            return NO;
        }
        states[e] = NONE;
        return OK;
    }

    public int merge(int s, int t, int key) {
        if (t < 0 || t >= SESSIONS) {
            return NO;
        }
        int error = entityError(s, key);
        if (error != OK) {
            return error;
        }
        int to = s * ROWS + key;
        int from = t * ROWS + key;
        boolean hasCells = states[from] == TRANSIENT || states[from] == NEW || states[from] == MANAGED;
        if (s == t || !hasCells || states[to] == REMOVED) {
            return NO;
        }
        boolean unloaded = states[to] == NONE || states[to] == PROXY;
        if (unloaded && !loadAlone(s, key)) {
            if (states[from] == MANAGED) {
                return STALE;
            }
            states[to] = NEW;
        }
        boolean bothManaged = states[from] == MANAGED && states[to] == MANAGED;
        if (bothManaged && snapshotCells[from * CELLS + VERSION] != snapshotCells[to * CELLS + VERSION]) {
            return STALE;
        }
        for (int what = 0; what <= LINK; what++) {
            entityCells[to * CELLS + what] = entityCells[from * CELLS + what];
        }
        return OK;
    }

    public int refresh(int s, int key) {
        int error = entityError(s, key);
        if (error != OK) {
            return error;
        }
        int state = states[s * ROWS + key];
        if (state != MANAGED && state != PROXY) {
            return NO;
        }
        counts[READS]++;
        return takeFromStore(s, key) ? OK : LOST;
    }

    public int find(int s, int what, int v) {
        int error = sessionError(s);
        if (error != OK) {
            return error;
        }
        if (what < 0 || what > LINK) {
            return NO;
        }
        error = flushSession(s);
        if (error != OK) {
            return error;
        }
        counts[READS]++;
        foundCount = 0;
        for (int key = 0; key < ROWS; key++) {
            if (isInSight(s, key) && sightCell(s, key, what) == v) {
                foundRows[foundCount] = key;
                foundCount++;
                manageIfUnloaded(s, key);
            }
        }
        return foundCount;
    }

    public int found(int k) {
        return k >= 0 && k < foundCount ? foundRows[k] : NO;
    }

    public int flush(int s) {
        int error = sessionError(s);
        return error == OK ? flushSession(s) : error;
    }

    public int commit(int s) {
        int error = sessionError(s);
        if (error == OK) {
            error = flushSession(s);
        }
        if (error == OK) {
            publishWritten(s);
        }
        return error;
    }

    public int rollback(int s) {
        if (s < 0 || s >= SESSIONS) {
            return NO;
        }
        undoWritten(s);
        for (int key = 0; key < ROWS; key++) {
            states[s * ROWS + key] = NONE;
        }
        broken[s] = false;
        return OK;
    }

    public int statement(int k, int what) {
        if (k < 0 || k >= statementCount || what < 0 || what > 1) {
            return NO;
        }
        return what == 0 ? statementKinds[k] : statementRows[k];
    }

    public long row(int key, int what) {
        if (key < 0 || key >= ROWS || what < 0 || what > 6) {
            return NO + BASE;
        }
        if (what == 4) {
            return rowThere[key] ? 1 : 0;
        }
        if (what == 5) {
            return lockedBy[key];
        }
        if (what == 6) {
            return cached[key] ? 1 : 0;
        }
        return rowThere[key] ? rowCells[key * CELLS + what] : NO + BASE;
    }

    public int count(int what) {
        return what >= 0 && what < COUNTS ? counts[what] : NO;
    }

    private int sessionError(int s) {
        if (s < 0 || s >= SESSIONS) {
            return NO;
        }
        return broken[s] ? BROKEN : OK;
    }

    private int entityError(int s, int key) {
        return key < 0 || key >= ROWS ? NO : sessionError(s);
    }

    private boolean isLink(int v) {
        return v >= NO_LINK && v < ROWS;
    }

    private boolean isDirty(int e) {
        if (states[e] != MANAGED) {
            return false;
        }
        int c = e * CELLS;
        return entityCells[c] != snapshotCells[c]
            || entityCells[c + 1] != snapshotCells[c + 1]
            || entityCells[c + LINK] != snapshotCells[c + LINK];
    }

    private boolean isInSight(int s, int key) {
        return lockedBy[key] == s ? writtenThere[key] : rowThere[key];
    }

    private int sightCell(int s, int key, int what) {
        int c = key * CELLS + what;
        return lockedBy[key] == s ? writtenCells[c] : rowCells[c];
    }

    private boolean isLockedByOther(int s, int key) {
        return lockedBy[key] != NOBODY && lockedBy[key] != s;
    }

    private void manageFromSight(int s, int key) {
        int e = s * ROWS + key;
        boolean isOwn = lockedBy[key] == s;
        states[e] = MANAGED;
        for (int what = 0; what < CELLS; what++) {
            int c = key * CELLS + what;
            int value = isOwn ? writtenCells[c] : rowCells[c];
            entityCells[e * CELLS + what] = value;
            snapshotCells[e * CELLS + what] = value;
        }
    }

    private void manageIfUnloaded(int s, int key) {
        int state = states[s * ROWS + key];
        if (state == NONE || state == PROXY) {
            manageFromSight(s, key);
        }
    }

    private boolean takeFromStore(int s, int key) {
        if (!isInSight(s, key)) {
            return false;
        }
        manageFromSight(s, key);
        if (lockedBy[key] == NOBODY) {
            cached[key] = true;
        }
        return true;
    }

    // Leaves the counting of READs to the caller, as a batch is one READ for all its rows.
    private int loadUncounted(int s, int key) {
        if (cached[key]) {
            counts[HITS]++;
            manageFromSight(s, key);
            return FROM_CACHE;
        }
        return takeFromStore(s, key) ? FROM_STORE : MISSING;
    }

    private boolean loadAlone(int s, int key) {
        int source = loadUncounted(s, key);
        if (source != FROM_CACHE) {
            counts[READS]++;
        }
        return source != MISSING;
    }

    private boolean touch(int s, int key) {
        int source = loadUncounted(s, key);
        boolean isRead = source != FROM_CACHE;
        int toTry = source != MISSING && modes[BATCH] ? BATCHED : 0;
        for (int other = 0; other < ROWS && toTry > 0; other++) {
            if (states[s * ROWS + other] == PROXY) {
                toTry--;
                int otherSource = loadUncounted(s, other);
                isRead = isRead || otherSource != FROM_CACHE;
            }
        }
        if (isRead) {
            counts[READS]++;
        }
        return source != MISSING;
    }

    private void saveChain(int s, int first) {
        int key = first;
        for (int n = 0; n < ROWS && key >= 0; n++) {
            int e = s * ROWS + key;
            if (states[e] != TRANSIENT) {
                return;
            }
            states[e] = NEW;
            key = entityCells[e * CELLS + LINK];
        }
    }

    private void removeManaged(int s, int key) {
        removedCount = 0;
        addRemoved(s, key);
        if (!modes[DOWN]) {
            return;
        }
        for (int n = 0; n < ROWS && n < removedCount; n++) {
            counts[READS]++;
            removeLinking(s, removedRows[n]);
        }
    }

    private void addRemoved(int s, int key) {
        states[s * ROWS + key] = REMOVED;
        if (removedCount < ROWS) {
            removedRows[removedCount] = key;
            removedCount++;
        }
    }

    private void removeLinking(int s, int target) {
        for (int key = 0; key < ROWS; key++) {
            if (isInSight(s, key) && sightCell(s, key, LINK) == target) {
                manageIfUnloaded(s, key);
            }
            int e = s * ROWS + key;
            boolean links = entityCells[e * CELLS + LINK] == target;
            if (links && states[e] == MANAGED) {
                addRemoved(s, key);
            } else if (links && states[e] == NEW) {
                states[e] = TRANSIENT;
            }
        }
    }

    private int flushSession(int s) {
        statementCount = 0;
        int error = saveLinked(s);
        if (error == OK) {
            error = insertNew(s);
        }
        if (error == OK) {
            error = updateDirty(s);
        }
        if (error == OK) {
            error = updateCut(s);
        }
        if (error == OK) {
            error = deleteRemoved(s);
        }
        if (error == OK) {
            error = linkError(s);
        }
        if (error == OK) {
            settleEntities(s);
        } else {
            undoWritten(s);
            broken[s] = true;
        }
        return error;
    }

    private int saveLinked(int s) {
        for (int key = 0; key < ROWS; key++) {
            int e = s * ROWS + key;
            int link = entityCells[e * CELLS + LINK];
            boolean isWritten = states[e] == NEW || isDirty(e);
            if (isWritten && link >= 0 && states[s * ROWS + link] == TRANSIENT) {
                if (!modes[UP]) {
                    return UNSAVED;
                }
                saveChain(s, link);
            }
        }
        return OK;
    }

    private void markLeft(int s, int state) {
        for (int key = 0; key < ROWS; key++) {
            left[key] = states[s * ROWS + key] == state;
        }
    }

    private int leastLeft() {
        for (int key = 0; key < ROWS; key++) {
            if (left[key]) {
                return key;
            }
        }
        return NO_ROW;
    }

    private int insertNew(int s) {
        cutCount = 0;
        markLeft(s, NEW);
        for (int n = 0; n < ROWS; n++) {
            int key = leastInsertable(s);
            boolean cut = key == NO_ROW;
            if (cut) {
                key = leastLeft();
            }
            if (key == NO_ROW) {
                return OK;
            }
            left[key] = false;
            int error = insertRow(s, key, cut);
            if (error != OK) {
                return error;
            }
        }
        return OK;
    }

    private int leastInsertable(int s) {
        for (int key = 0; key < ROWS; key++) {
            int link = entityCells[(s * ROWS + key) * CELLS + LINK];
            boolean waits = link >= 0 && link != key && left[link];
            if (left[key] && !waits) {
                return key;
            }
        }
        return NO_ROW;
    }

    private int insertRow(int s, int key, boolean cut) {
        if (isLockedByOther(s, key)) {
            return BUSY;
        }
        if (isInSight(s, key)) {
            return DUPLICATE;
        }
        writeRow(s, key, 0);
        if (cut && cutCount < ROWS) {
            writtenCells[key * CELLS + LINK] = NO_LINK;
            cutRows[cutCount] = key;
            cutCount++;
        }
        noteStatement(INSERT, key);
        return OK;
    }

    private int updateDirty(int s) {
        for (int key = 0; key < ROWS; key++) {
            int e = s * ROWS + key;
            if (isDirty(e)) {
                int error = updateRow(s, key, snapshotCells[e * CELLS + VERSION]);
                if (error != OK) {
                    return error;
                }
            }
        }
        return OK;
    }

    private int updateCut(int s) {
        for (int n = 0; n < cutCount && n < ROWS; n++) {
            int error = updateRow(s, cutRows[n], 0);
            if (error != OK) {
                return error;
            }
        }
        return OK;
    }

    private int updateRow(int s, int key, int version) {
        int error = versionError(s, key, version);
        if (error != OK) {
            return error;
        }
        writeRow(s, key, version + 1);
        noteStatement(UPDATE, key);
        return OK;
    }

    private int deleteRemoved(int s) {
        markLeft(s, REMOVED);
        for (int n = 0; n < ROWS; n++) {
            int key = leastDeletable(s);
            if (key == NO_ROW) {
                key = leastLeft();
            }
            if (key == NO_ROW) {
                return OK;
            }
            left[key] = false;
            int error = deleteRow(s, key);
            if (error != OK) {
                return error;
            }
        }
        return OK;
    }

    private int leastDeletable(int s) {
        for (int key = 0; key < ROWS; key++) {
            if (left[key] && !isLinkedByLeft(s, key)) {
                return key;
            }
        }
        return NO_ROW;
    }

    private boolean isLinkedByLeft(int s, int target) {
        for (int key = 0; key < ROWS; key++) {
            boolean links = snapshotCells[(s * ROWS + key) * CELLS + LINK] == target;
            if (left[key] && key != target && links) {
                return true;
            }
        }
        return false;
    }

    private int deleteRow(int s, int key) {
        int error = versionError(s, key, snapshotCells[(s * ROWS + key) * CELLS + VERSION]);
        if (error != OK) {
            return error;
        }
        lockedBy[key] = s;
        cached[key] = false;
        writtenThere[key] = false;
        noteStatement(DELETE, key);
        return OK;
    }

    private int versionError(int s, int key, int version) {
        if (isLockedByOther(s, key)) {
            return BUSY;
        }
        if (!isInSight(s, key) || sightCell(s, key, VERSION) != version) {
            return STALE;
        }
        return OK;
    }

    private void writeRow(int s, int key, int version) {
        lockedBy[key] = s;
        cached[key] = false;
        writtenThere[key] = true;
        for (int what = 0; what <= LINK; what++) {
            writtenCells[key * CELLS + what] = entityCells[(s * ROWS + key) * CELLS + what];
        }
        writtenCells[key * CELLS + VERSION] = version;
    }

    private void noteStatement(int kind, int key) {
        counts[FIRST_STATEMENT_COUNT + kind]++;
        if (statementCount < STATEMENTS) {
            statementKinds[statementCount] = kind;
            statementRows[statementCount] = key;
            statementCount++;
        }
    }

    private int linkError(int s) {
        for (int key = 0; key < ROWS; key++) {
            if (isInSight(s, key)) {
                int link = sightCell(s, key, LINK);
                if (link >= 0 && !isInSight(s, link)) {
                    return FOREIGN;
                }
            }
        }
        return OK;
    }

    // Entities change only here, at the end: those of a FLUSH that fails stay as they were, and a merge can see them.
    private void settleEntities(int s) {
        for (int key = 0; key < ROWS; key++) {
            int e = s * ROWS + key;
            if (states[e] == REMOVED) {
                states[e] = NONE;
            } else if (states[e] == NEW || isDirty(e)) {
                manageFromSight(s, key);
            }
        }
    }

    private void undoWritten(int s) {
        for (int key = 0; key < ROWS; key++) {
            if (lockedBy[key] == s) {
                lockedBy[key] = NOBODY;
            }
        }
    }

    private void publishWritten(int s) {
        for (int key = 0; key < ROWS; key++) {
            if (lockedBy[key] == s) {
                lockedBy[key] = NOBODY;
                rowThere[key] = writtenThere[key];
                cached[key] = writtenThere[key];
                for (int what = 0; what < CELLS; what++) {
                    rowCells[key * CELLS + what] = writtenCells[key * CELLS + what];
                }
            }
        }
    }
}
