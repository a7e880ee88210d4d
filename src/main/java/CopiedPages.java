import java.util.Arrays;
import java.util.NoSuchElementException;

/** A tree of pages that is never written over; the document's promises 1 to 46. */
public final class CopiedPages {
    public static final int NONE = -1;

    private static final int PAGES = 48;
    private static final int HEADS = 2;
    private static final int READERS = 4;
    private static final int VIEWS = 5;
    private static final int HEAD_VIEW = 4;
    private static final int KEYS = 100;
    private static final int REMOVED = 100;
    private static final int MOST_CHANGES = 12;
    private static final int MOST_TEXTS = 12;
    private static final int MOST_TICKS = 60;
    private static final int MOST_ACTS = 12;
    private static final int MOST_BYTES = 400;
    private static final int MOST_SEEN_BYTES = 40;
    private static final int WORK_LINES = 14;
    private static final int LAW_LINES = 12;
    private static final int MOST_DEEP = 6;
    private static final int LOG_ROWS = 60;
    private static final int LOG_CELLS = 4;
    private static final int MOST_TICK = 9999;
    private static final int MOST_WEAR = 9999;
    private static final int MOST_COST = 99999;
    private static final int MOST_RISK = 100;
    private static final int NO_FAILURE = 1000;
    private static final int SEEDS = 6;

    private static final int LEAF = 1;
    private static final int BRANCH = 2;
    private static final int SLIP = 3;
    private static final int HEAD = 4;
    private static final int TORN = 5;

    private static final int HEAD_CELLS = 4;
    private static final int NUMBER = 0;
    private static final int TREE = 1;
    private static final int LIST = 2;
    private static final int HIGH = 3;

    /** Rows of a slip are the most that a page holds, so every page and node has room for six. */
    private static final int ROOM = 6;
    private static final int NODE_FULL = 4;
    private static final int SPLIT_STAYS = 3;
    /** A tree of 46 pages has at most 23 levels (its root has two children), and twelve changes add few. */
    private static final int DEEPEST = 40;
    /**
     * Count 1 for each node of three and 2 for each of four: 92 at most on the disk. A change adds 1 at most and
     * a split takes 1 at least, so twelve changes make no more than 104 splits, and few new roots.
     */
    private static final int NODES = PAGES + 128;

    /** Instead of how many writes; would() answers it as it is. */
    private static final int FULL = NONE;

    private static final int FACTS = 7;
    private static final int FACT_PAGE = 0;
    private static final int FACT_KIND = 1;
    private static final int FACT_WEAR = 2;
    private static final int FACT_ROWS = 3;
    private static final int FACT_VERSION = 4;
    private static final int FACT_READERS = 5;
    private static final int FACT_TICK = 6;
    private static final int SLIP_WRITE = 2;
    private static final int HEAD_WRITE = 3;

    private static final int END = 0;
    private static final int WORD = 1;
    private static final int DIGITS = 2;
    private static final int SIGN = 3;

    /** All words of both kinds of texts; the constants below tell where they stand in it. */
    private static final String WORDS =
            "put drop risk spare cost if or and not head slip even page kind wear rows version readers tick";
    private static final int PUT_WORD = 0;
    private static final int DROP_WORD = 1;
    private static final int RISK_WORD = 2;
    private static final int SPARE_WORD = 3;
    private static final int COST_WORD = 4;
    private static final int IF_WORD = 5;
    private static final int OR_WORD = 6;
    private static final int AND_WORD = 7;
    private static final int NOT_WORD = 8;
    private static final int HEAD_WORD = 9;
    private static final int EVEN_WORD = 11;
    private static final int PAGE_WORD = 12;
    private static final int TICK_WORD = 18;

    /** Codes of the law below PUSH_FACT push themselves: numbers have three digits at most. */
    private static final int PUSH_FACT = 1000;
    private static final int IS_HEAD = 2000;
    private static final int IS_SLIP = 2001;
    private static final int IS_EVEN = 2002;
    private static final int NOT = 3000;
    private static final int ADD = 4000;
    private static final int LESS = 4001;
    private static final int MORE = 4002;
    private static final int AND = 4003;
    private static final int OR = 4004;
    /** Six levels of ( hold two truths each, and a comparison holds two sums and a part. */
    private static final int STACK = 32;

    private final Tape tape = new Tape();
    private final State now = new State();
    private final State spare = new State();
    private final State kept = new State();
    private boolean isKept = false;
    private final Law theLaw = new Law();
    private final Law lawRead = new Law();
    private final Law lawKept = new Law();
    private final LawText lawText = new LawText(tape, lawRead);
    private final WorkText workText = new WorkText(tape);
    private final History history = new History();
    private final Plan plan = new Plan();
    private final FreeList free = new FreeList();
    private final Walk[] walks = new Walk[VIEWS];
    private final int[] tickKey = new int[1];
    private final int[] tickValue = new int[1];
    private final int[] partner = new int[READERS];
    private final int[] bestPartner = new int[READERS];
    private int mostShared = NONE;
    private final int[] buffers = new int[READERS];

    public CopiedPages() {
        for (int view = 0; view < VIEWS; view++) {
            walks[view] = new Walk();
        }
    }

    // ---- the tape and the texts

    public int feed(int a, int b, int c, int d, int e) {
        if (tape.length + 20 > MOST_BYTES) {
            return NONE;
        }
        tape.append(a);
        tape.append(b);
        tape.append(c);
        tape.append(d);
        tape.append(e);
        return tape.length;
    }

    public boolean end(int n) {
        if (n < 0 || n > tape.length) {
            return false;
        }
        tape.length = n;
        return true;
    }

    public int work() throws IllegalArgumentException, UnsupportedOperationException, IllegalStateException {
        if (!workText.parse()) {
            throw new IllegalArgumentException();
        }
        if (now.texts >= MOST_TEXTS) {
            throw new UnsupportedOperationException();
        }
        if (plan.make(now, workText.keys, workText.values, workText.changes) == FULL) {
            throw new IllegalStateException();
        }
        now.risk = workText.risk == NONE ? now.risk : workText.risk;
        now.tick = workText.tick == NONE ? now.tick : workText.tick;
        plan.carryOut(now, theLaw, NO_FAILURE, false);
        now.texts++;
        history.clear();
        return now.texts;
    }

    public int law() throws IllegalArgumentException {
        if (!lawText.parse()) {
            throw new IllegalArgumentException();
        }
        theLaw.copyFrom(lawRead);
        history.clear();
        return theLaw.lines;
    }

    public int fault() {
        return tape.wrong;
    }

    // ---- what stands on the disk and waits beside it

    public int page(int page, int what) throws IndexOutOfBoundsException, NoSuchElementException {
        if (!isPage(page)) {
            throw new IndexOutOfBoundsException();
        }
        switch (what) {
            case 0:
                return now.disk.kind[page];
            case 1:
                return now.disk.size[page];
            case 2:
                return now.disk.wear[page];
            case 3:
                free.read(now);
                return free.freed[page];
            case 4:
                return tenant(page);
            case 5:
                free.read(now);
                return free.isUsable(page) ? 1 : 0;
            case 6:
                return partOfWear(page);
            case 7:
                return now.disk.next[page];
            default:
                throw new NoSuchElementException();
        }
    }

    public int entry(int page, int k, boolean more) throws IndexOutOfBoundsException {
        if (!isPage(page)) {
            throw new IndexOutOfBoundsException();
        }
        return now.disk.cell(more ? now.disk.second : now.disk.first, page, k);
    }

    public int head(int head, int what) throws IndexOutOfBoundsException, NoSuchElementException {
        if (head < 0 || head >= HEADS) {
            throw new IndexOutOfBoundsException();
        }
        if (what < 0 || what >= HEAD_CELLS) {
            throw new NoSuchElementException();
        }
        return now.disk.kind[head] == TORN ? NONE : now.disk.headCell(head, what);
    }

    public int reader(int reader) throws IndexOutOfBoundsException {
        if (!isReader(reader)) {
            throw new IndexOutOfBoundsException();
        }
        return now.readerVersion[reader];
    }

    public int change(int k, int what) throws NoSuchElementException {
        if (what != 0 && what != 1) {
            throw new NoSuchElementException();
        }
        if (k < 0 || k >= now.changes || k >= MOST_CHANGES) {
            return NONE;
        }
        return what == 0 ? now.changeKey[k] : now.changeValue[k];
    }

    // ---- acts

    public int ticks(int n) throws IllegalArgumentException {
        if (n < 1 || n > MOST_TICKS) {
            throw new IllegalArgumentException();
        }
        history.remember(now);
        return runTicks(n);
    }

    public int put(int key, int value)
            throws IndexOutOfBoundsException, IllegalArgumentException, IllegalStateException {
        if (!isKey(key)) {
            throw new IndexOutOfBoundsException();
        }
        if (value < 0 || value > REMOVED) {
            throw new IllegalArgumentException();
        }
        if (now.changes < 0 || now.changes >= MOST_CHANGES) {
            throw new IllegalStateException();
        }
        history.remember(now);
        now.changeKey[now.changes] = key;
        now.changeValue[now.changes] = value;
        now.changes++;
        return now.changes;
    }

    public int forget() {
        history.remember(now);
        int dropped = now.changes;
        now.changes = 0;
        return dropped;
    }

    public int commit() throws IllegalStateException {
        int writes = planChanges();
        if (writes == FULL) {
            throw new IllegalStateException();
        }
        commitChanges(NO_FAILURE, false);
        return writes;
    }

    public boolean cut(int n) throws IllegalArgumentException, IllegalStateException {
        if (n < 0 || n > 99) {
            throw new IllegalArgumentException();
        }
        if (planChanges() == FULL) {
            throw new IllegalStateException();
        }
        return commitChanges(n, false);
    }

    public boolean store() throws IllegalStateException {
        if (planChanges() == FULL) {
            throw new IllegalStateException();
        }
        return commitChanges(NO_FAILURE, true);
    }

    public int open(int reader) throws IndexOutOfBoundsException, IllegalStateException {
        if (!isReader(reader)) {
            throw new IndexOutOfBoundsException();
        }
        if (now.readerVersion[reader] != NONE) {
            throw new IllegalStateException();
        }
        history.remember(now);
        now.readerVersion[reader] = now.disk.ofTheHead(NUMBER);
        now.readerTree[reader] = now.disk.ofTheHead(TREE);
        return now.readerVersion[reader];
    }

    public int close(int reader) throws IndexOutOfBoundsException, IllegalStateException {
        if (!isReader(reader)) {
            throw new IndexOutOfBoundsException();
        }
        if (now.readerVersion[reader] == NONE) {
            throw new IllegalStateException();
        }
        history.remember(now);
        int version = now.readerVersion[reader];
        now.readerVersion[reader] = NONE;
        now.readerTree[reader] = NONE;
        return version;
    }

    public int risk(int n) throws IllegalArgumentException {
        if (n < 0 || n > MOST_RISK) {
            throw new IllegalArgumentException();
        }
        history.remember(now);
        int before = now.risk;
        now.risk = n;
        return before;
    }

    // ---- views

    public int value(int view, int key) throws IndexOutOfBoundsException, IllegalStateException {
        if (!isView(view) || !isKey(key)) {
            throw new IndexOutOfBoundsException();
        }
        if (!isOpenView(view)) {
            throw new IllegalStateException();
        }
        return walkOf(view).values[key];
    }

    public int tree(int view, int what)
            throws IndexOutOfBoundsException, NoSuchElementException, IllegalStateException {
        if (!isView(view)) {
            throw new IndexOutOfBoundsException();
        }
        if (what < 0 || what > 3) {
            throw new NoSuchElementException();
        }
        if (!isOpenView(view)) {
            throw new IllegalStateException();
        }
        if (what == 3) {
            return rootOf(view);
        }
        Walk walk = walkOf(view);
        if (what == 0) {
            return walk.keys;
        }
        return what == 1 ? walk.depth : walk.size;
    }

    public int rank(int view, int k) throws IndexOutOfBoundsException, IllegalStateException {
        if (!isView(view)) {
            throw new IndexOutOfBoundsException();
        }
        if (!isOpenView(view)) {
            throw new IllegalStateException();
        }
        return walkOf(view).keyByRank(k);
    }

    public int sum(int view, int from, int to)
            throws IndexOutOfBoundsException, IllegalArgumentException, IllegalStateException {
        if (!isView(view) || !isKey(from) || !isKey(to)) {
            throw new IndexOutOfBoundsException();
        }
        if (to < from) {
            throw new IllegalArgumentException();
        }
        if (!isOpenView(view)) {
            throw new IllegalStateException();
        }
        return walkOf(view).total(from, to);
    }

    public int common(int view, int other) throws IndexOutOfBoundsException, IllegalStateException {
        if (!isView(view) || !isView(other)) {
            throw new IndexOutOfBoundsException();
        }
        if (!isOpenView(view) || !isOpenView(other)) {
            throw new IllegalStateException();
        }
        return walkOf(view).pagesShared(walkOf(other));
    }

    public int unlike(int view, int other) throws IndexOutOfBoundsException, IllegalStateException {
        if (!isView(view) || !isView(other)) {
            throw new IndexOutOfBoundsException();
        }
        if (!isOpenView(view) || !isOpenView(other)) {
            throw new IllegalStateException();
        }
        return walkOf(view).keysApart(walkOf(other));
    }

    // ---- what a commit would do

    public int would(int k) {
        int writes = planChanges();
        if (k == NONE) {
            return writes;
        }
        return k < 0 || k >= writes ? NONE : plan.pageOfWrite(k);
    }

    public int comes() {
        int writes = planChanges();
        if (writes == FULL) {
            return 0;
        }
        int odds = 10000;
        for (int k = 0; k < writes; k++) {
            odds = odds * (100 - plan.risksOf(now, theLaw, k)) / 100;
        }
        return odds;
    }

    // ---- counts, losses and what was seen

    public int many(int what) throws NoSuchElementException {
        switch (what) {
            case 0:
            case 1:
            case 2:
            case 3:
            case 4:
            case 5:
                return pagesOfKind(what);
            case 6:
                free.read(now);
                return free.rows;
            case 7:
                free.read(now);
                return free.waiting();
            case 8:
                return lostPages();
            case 9:
                return pinnedPages();
            default:
                throw new NoSuchElementException();
        }
    }

    public int precious(boolean loss) {
        Walk walk = walkOf(HEAD_VIEW);
        int root = rootOf(HEAD_VIEW);
        int best = NONE;
        int most = NONE;
        for (int page = HEADS; page < PAGES; page++) {
            if (page != root && walk.beneath[page] > most) {
                best = page;
                most = walk.beneath[page];
            }
        }
        return loss ? most : best;
    }

    public int seen() throws IllegalArgumentException {
        int rows = takeRows();
        if (rows == NONE) {
            throw new IllegalArgumentException();
        }
        return fitting(rows);
    }

    public int likely() throws IllegalArgumentException {
        int rows = takeRows();
        if (rows == NONE) {
            throw new IllegalArgumentException();
        }
        int fits = fitting(rows);
        int best = NONE;
        int fewest = 2;
        for (int view = 0; view < VIEWS; view++) {
            if (hasBit(fits, view) && wrongRows(view, rows) < fewest) {
                best = view;
                fewest = wrongRows(view, rows);
            }
        }
        return best;
    }

    public int look() throws IllegalArgumentException {
        int rows = takeRows();
        if (rows == NONE) {
            throw new IllegalArgumentException();
        }
        int fits = fitting(rows);
        if (Integer.bitCount(fits) < 2) {
            return NONE;
        }
        int best = NONE;
        int least = VIEWS + 1;
        for (int key = 0; key < KEYS; key++) {
            int part = greatestPart(fits, key);
            if (part < least) {
                best = key;
                least = part;
            }
        }
        return best;
    }

    // ---- readers two by two, buffers, choices

    public int pairs(int reader) throws IndexOutOfBoundsException {
        if (reader != NONE && !isReader(reader)) {
            throw new IndexOutOfBoundsException();
        }
        int most = bestPairs();
        return reader == NONE ? most : bestPartner[reader];
    }

    public int share(int reader, int n) throws IndexOutOfBoundsException, IllegalArgumentException {
        if (!isReader(reader)) {
            throw new IndexOutOfBoundsException();
        }
        if (n < 0 || n > 99) {
            throw new IllegalArgumentException();
        }
        readViews();
        Arrays.fill(buffers, 0);
        for (int given = 0; given < n; given++) {
            buffers[neediest()]++;
        }
        return buffers[reader];
    }

    public int rests() {
        int bits = 0;
        for (int writer = 0; writer < 2; writer++) {
            for (int thief = 0; thief < 2; thief++) {
                boolean writerStays = writerHas(1 - writer, thief) <= writerHas(writer, thief);
                boolean thiefStays = thiefHas(writer, 1 - thief) <= thiefHas(writer, thief);
                if (writerStays && thiefStays) {
                    bits |= 1 << (2 * writer + thief);
                }
            }
        }
        return bits;
    }

    public int most(int what) throws NoSuchElementException {
        switch (what) {
            case 0:
                return mostWorn();
            case 1:
                return fullestLeaf();
            case 2:
                return oldestReader();
            default:
                throw new NoSuchElementException();
        }
    }

    // ---- trials, the log, going back

    public int trial(int n, boolean keys) throws IllegalArgumentException {
        if (n < 0 || n > MOST_TICKS) {
            throw new IllegalArgumentException();
        }
        spare.copyFrom(now);
        runTicks(n);
        int answer = keys ? walkOf(HEAD_VIEW).keys : now.disk.ofTheHead(NUMBER);
        now.copyFrom(spare);
        return answer;
    }

    public int span(int n, boolean most) throws IllegalArgumentException {
        if (n < 0 || n > MOST_TICKS) {
            throw new IllegalArgumentException();
        }
        spare.copyFrom(now);
        int least = KEYS;
        int greatest = 0;
        for (int seed = 1; seed <= SEEDS; seed++) {
            now.copyFrom(spare);
            now.seed = seed;
            runTicks(n);
            int keys = walkOf(HEAD_VIEW).keys;
            least = Math.min(least, keys);
            greatest = Math.max(greatest, keys);
        }
        now.copyFrom(spare);
        return most ? greatest : least;
    }

    public int led(int kind, boolean tick) throws NoSuchElementException {
        if (kind != 0 && kind != 1) {
            throw new NoSuchElementException();
        }
        int rows = 0;
        int latest = NONE;
        for (int ago = 0; ago < now.logCount; ago++) {
            if (now.logCell(ago, 2) == kind) {
                latest = rows == 0 ? now.logCell(ago, 0) : latest;
                rows++;
            }
        }
        return tick ? latest : rows;
    }

    public int log(int ago, int what) throws NoSuchElementException {
        if (what < 0 || what >= LOG_CELLS) {
            throw new NoSuchElementException();
        }
        return now.logCell(ago, what);
    }

    public int seed(int n) {
        int before = now.seed;
        now.seed = n;
        return before;
    }

    public boolean undo() {
        return history.goBack(now);
    }

    public void image() {
        kept.copyFrom(now);
        lawKept.copyFrom(theLaw);
        isKept = true;
    }

    public boolean back() {
        if (!isKept) {
            return false;
        }
        now.copyFrom(kept);
        theLaw.copyFrom(lawKept);
        history.clear();
        return true;
    }

    public int count(int what) {
        switch (what) {
            case 0:
                return now.disk.ofTheHead(NUMBER);
            case 1:
                return now.changes;
            case 2:
                return now.texts;
            case 3:
                return theLaw.lines;
            case 4:
                return now.risk;
            case 5:
                return now.cost;
            case 6:
                return now.tick;
            case 7:
                return now.disk.ofTheHead(HIGH);
            case 8:
                return now.openReaders();
            case 9:
                return now.disk.theHead();
            case 10:
                return now.logCount;
            case 11:
                return history.acts;
            default:
                return NONE;
        }
    }

    // ---- helpers of the face

    private static boolean isPage(int page) {
        return page >= 0 && page < PAGES;
    }

    /** A page that a tree or the list may have: the heads are none. */
    private static boolean isInner(int page) {
        return page >= HEADS && page < PAGES;
    }

    private static boolean isReader(int reader) {
        return reader >= 0 && reader < READERS;
    }

    private static boolean isView(int view) {
        return view >= 0 && view < VIEWS;
    }

    private static boolean isKey(int key) {
        return key >= 0 && key < KEYS;
    }

    private static boolean hasBit(int bits, int k) {
        return (bits >> k & 1) == 1;
    }

    private boolean isOpenView(int view) {
        return view == HEAD_VIEW || isReader(view) && now.readerVersion[view] != NONE;
    }

    private int rootOf(int view) {
        if (view == HEAD_VIEW) {
            return now.disk.ofTheHead(TREE);
        }
        return isReader(view) ? now.readerTree[view] : NONE;
    }

    /** Views beyond the last one share its walk, so that the answer is never null. */
    private Walk walkOf(int view) {
        Walk walk = walks[isView(view) ? view : HEAD_VIEW];
        walk.read(now.disk, rootOf(view));
        return walk;
    }

    private void readViews() {
        for (int view = 0; view < VIEWS; view++) {
            walkOf(view);
        }
    }

    private int planChanges() {
        return plan.make(now, now.changeKey, now.changeValue, now.changes);
    }

    private boolean commitChanges(int power, boolean drawn) {
        history.remember(now);
        boolean failed = plan.carryOut(now, theLaw, power, drawn);
        now.changes = 0;
        return failed;
    }

    private int runTicks(int n) {
        int failures = 0;
        for (int i = 0; i < n; i++) {
            tickKey[0] = now.draw() % KEYS;
            tickValue[0] = now.draw() % 3 == 2 ? REMOVED : now.draw() % 100;
            if (plan.make(now, tickKey, tickValue, 1) > 0 && plan.carryOut(now, theLaw, NO_FAILURE, true)) {
                failures++;
            }
            now.tick = Math.min(MOST_TICK, now.tick + 1);
        }
        return failures;
    }

    private int tenant(int page) {
        readViews();
        int bits = 0;
        for (int view = 0; view < VIEWS; view++) {
            if (walks[view].has(page)) {
                bits |= 1 << view;
            }
        }
        return bits;
    }

    private int partOfWear(int page) {
        int all = 0;
        for (int other = 0; other < PAGES; other++) {
            all += now.disk.wear[other];
        }
        return all <= 0 ? 0 : 100 * now.disk.wear[page] / all;
    }

    private int pagesOfKind(int kind) {
        int pages = 0;
        for (int page = 0; page < PAGES; page++) {
            if (now.disk.kind[page] == kind) {
                pages++;
            }
        }
        return pages;
    }

    private int lostPages() {
        free.read(now);
        Walk walk = walkOf(HEAD_VIEW);
        int high = Math.min(PAGES, now.disk.ofTheHead(HIGH));
        int lost = 0;
        for (int page = HEADS; page < high; page++) {
            if (!walk.has(page) && free.slip[page] == 0 && free.freed[page] == NONE) {
                lost++;
            }
        }
        return lost;
    }

    private int pinnedPages() {
        int pinned = 0;
        readViews();
        for (int page = HEADS; page < PAGES; page++) {
            boolean read = false;
            for (int reader = 0; reader < READERS; reader++) {
                read = read || walks[reader].has(page);
            }
            if (read && !walks[HEAD_VIEW].has(page)) {
                pinned++;
            }
        }
        return pinned;
    }

    /** Uses the tape up; its bytes stay in place till the next feed, so the rows can still be read there. */
    private int takeRows() {
        int length = tape.length;
        tape.length = 0;
        if (length > MOST_SEEN_BYTES || length % 2 != 0) {
            return NONE;
        }
        for (int row = 0; 2 * row + 1 < length; row++) {
            if (tape.bytes[2 * row] >= KEYS || tape.bytes[2 * row + 1] > REMOVED) {
                return NONE;
            }
        }
        return length / 2;
    }

    private int wrongRows(int view, int rows) {
        int wrong = 0;
        for (int row = 0; row < rows && row < MOST_SEEN_BYTES / 2; row++) {
            int key = tape.bytes[2 * row];
            int told = tape.bytes[2 * row + 1];
            int has = isKey(key) ? walks[view].values[key] : NONE;
            if (has != (told == REMOVED ? NONE : told)) {
                wrong++;
            }
        }
        return wrong;
    }

    private int fitting(int rows) {
        readViews();
        int bits = 0;
        for (int view = 0; view < VIEWS; view++) {
            if (isOpenView(view) && wrongRows(view, rows) <= 1) {
                bits |= 1 << view;
            }
        }
        return bits;
    }

    private int greatestPart(int fits, int key) {
        int greatest = 0;
        for (int view = 0; view < VIEWS; view++) {
            int part = 0;
            for (int other = view; hasBit(fits, view) && other < VIEWS; other++) {
                if (hasBit(fits, other) && walks[view].values[key] == walks[other].values[key]) {
                    part++;
                }
            }
            greatest = Math.max(greatest, part);
        }
        return greatest;
    }

    private int bestPairs() {
        readViews();
        Arrays.fill(partner, NONE);
        mostShared = NONE;
        pairFrom(0, 0);
        return mostShared;
    }

    /** None is tried ahead of the others, and these rising, so that the first way of the most is the one kept. */
    private void pairFrom(int reader, int shared) {
        if (reader < 0 || reader >= READERS) {
            if (shared > mostShared) {
                mostShared = shared;
                System.arraycopy(partner, 0, bestPartner, 0, READERS);
            }
            return;
        }
        pairFrom(reader + 1, shared);
        if (partner[reader] != NONE) {
            return;
        }
        for (int other = reader + 1; other < READERS; other++) {
            if (partner[other] == NONE && mayPair(reader, other)) {
                partner[reader] = other;
                partner[other] = reader;
                pairFrom(reader + 1, shared + walks[reader].pagesShared(walks[other]));
                partner[reader] = NONE;
                partner[other] = NONE;
            }
        }
    }

    private boolean mayPair(int reader, int other) {
        return isOpenView(reader) && isOpenView(other)
                && now.readerVersion[reader] != now.readerVersion[other];
    }

    private int neediest() {
        int best = 0;
        int most = NONE;
        for (int reader = 0; reader < READERS; reader++) {
            int part = buffers[reader] < 0 ? 0 : walks[reader].size / (buffers[reader] + 1);
            if (part > most) {
                best = reader;
                most = part;
            }
        }
        return best;
    }

    private int writerHas(int writer, int thief) {
        if (writer == 0) {
            return thief == 0 ? -now.changes : 2 * now.changes;
        }
        return thief == 0 ? 0 : -1;
    }

    private int thiefHas(int writer, int thief) {
        if (writer == 0) {
            return thief == 0 ? 3 : 0;
        }
        return thief == 0 ? -now.openReaders() : 1;
    }

    private int mostWorn() {
        int best = 0;
        for (int page = 1; page < PAGES; page++) {
            if (now.disk.wear[page] > now.disk.wear[best]) {
                best = page;
            }
        }
        return best;
    }

    private int fullestLeaf() {
        Walk walk = walkOf(HEAD_VIEW);
        int best = NONE;
        int most = 0;
        for (int page = HEADS; page < PAGES; page++) {
            if (walk.has(page) && now.disk.kind[page] == LEAF && now.disk.size[page] > most) {
                best = page;
                most = now.disk.size[page];
            }
        }
        return best;
    }

    private int oldestReader() {
        int best = NONE;
        for (int reader = 0; reader < READERS; reader++) {
            int version = now.readerVersion[reader];
            if (version != NONE && (best == NONE || version < now.readerVersion[best])) {
                best = reader;
            }
        }
        return best;
    }

    // ---- classes inside

    /** The pages and what stands on them; what the two heads tell lies in rows of its own. */
    private static final class Disk {
        final int[] kind = new int[PAGES];
        final int[] size = new int[PAGES];
        final int[] wear = new int[PAGES];
        final int[] next = new int[PAGES];
        /** KEYS of a leaf, LEASTS of a branch, PAGES of a slip. */
        final int[] first = new int[PAGES * ROOM];
        /** VALUES of a leaf, children of a branch, FREED of a slip. */
        final int[] second = new int[PAGES * ROOM];
        final int[] heads = new int[HEADS * HEAD_CELLS];

        Disk() {
            Arrays.fill(next, NONE);
            kind[0] = HEAD;
            kind[1] = TORN;
            heads[TREE] = NONE;
            heads[LIST] = NONE;
            heads[HIGH] = HEADS;
        }

        void copyFrom(Disk other) {
            System.arraycopy(other.kind, 0, kind, 0, PAGES);
            System.arraycopy(other.size, 0, size, 0, PAGES);
            System.arraycopy(other.wear, 0, wear, 0, PAGES);
            System.arraycopy(other.next, 0, next, 0, PAGES);
            System.arraycopy(other.first, 0, first, 0, PAGES * ROOM);
            System.arraycopy(other.second, 0, second, 0, PAGES * ROOM);
            System.arraycopy(other.heads, 0, heads, 0, HEADS * HEAD_CELLS);
        }

        int theHead() {
            if (kind[0] == TORN) {
                return 1;
            }
            if (kind[1] == TORN) {
                return 0;
            }
            return heads[HEAD_CELLS + NUMBER] > heads[NUMBER] ? 1 : 0;
        }

        int headCell(int head, int what) {
            int at = head * HEAD_CELLS + what;
            return at < 0 || at >= HEADS * HEAD_CELLS ? NONE : heads[at];
        }

        int ofTheHead(int what) {
            return headCell(theHead(), what);
        }

        int cell(int[] row, int page, int k) {
            if (!isPage(page) || k < 0 || k >= size[page] || k >= ROOM) {
                return NONE;
            }
            return row[page * ROOM + k];
        }

        /** Empties a page for a write, whether this one is made or torn. */
        void wipe(int page, int kindThen) {
            if (isPage(page)) {
                kind[page] = kindThen;
                size[page] = 0;
                next[page] = NONE;
                wear[page] = Math.min(MOST_WEAR, wear[page] + 1);
            }
        }

        void append(int page, int one, int other) {
            if (isPage(page) && size[page] >= 0 && size[page] < ROOM) {
                int at = page * ROOM + size[page];
                first[at] = one;
                second[at] = other;
                size[page]++;
            }
        }

        void tellHead(int head, int what, int n) {
            int at = head * HEAD_CELLS + what;
            if (at >= 0 && at < HEADS * HEAD_CELLS) {
                heads[at] = n;
            }
        }
    }

    /** All that an undone act or the image brings back, but for the law. */
    private static final class State {
        final Disk disk = new Disk();
        final int[] readerVersion = new int[READERS];
        final int[] readerTree = new int[READERS];
        final int[] changeKey = new int[MOST_CHANGES];
        final int[] changeValue = new int[MOST_CHANGES];
        int changes = 0;
        int risk = 0;
        int cost = 0;
        int tick = 0;
        int seed = 1;
        int texts = 0;
        final int[] logCells = new int[LOG_ROWS * LOG_CELLS];
        int logCount = 0;
        int logNext = 0;

        State() {
            Arrays.fill(readerVersion, NONE);
            Arrays.fill(readerTree, NONE);
        }

        void copyFrom(State other) {
            disk.copyFrom(other.disk);
            System.arraycopy(other.readerVersion, 0, readerVersion, 0, READERS);
            System.arraycopy(other.readerTree, 0, readerTree, 0, READERS);
            System.arraycopy(other.changeKey, 0, changeKey, 0, MOST_CHANGES);
            System.arraycopy(other.changeValue, 0, changeValue, 0, MOST_CHANGES);
            System.arraycopy(other.logCells, 0, logCells, 0, LOG_ROWS * LOG_CELLS);
            changes = other.changes;
            risk = other.risk;
            cost = other.cost;
            tick = other.tick;
            seed = other.seed;
            texts = other.texts;
            logCount = other.logCount;
            logNext = other.logNext;
        }

        int openReaders() {
            int open = 0;
            for (int reader = 0; reader < READERS; reader++) {
                if (readerVersion[reader] != NONE) {
                    open++;
                }
            }
            return open;
        }

        int draw() {
            seed = 1103515245 * seed + 12345;
            return seed >>> 16 & 32767;
        }

        void losePower() {
            Arrays.fill(readerVersion, NONE);
            Arrays.fill(readerTree, NONE);
            changes = 0;
        }

        void addLog(int number, int failed, int writes) {
            int at = Math.floorMod(logNext, LOG_ROWS) * LOG_CELLS;
            logCells[at] = tick;
            logCells[at + 1] = number;
            logCells[at + 2] = failed;
            logCells[at + 3] = writes;
            logNext = (logNext + 1) % LOG_ROWS;
            logCount = Math.min(LOG_ROWS, logCount + 1);
        }

        int logCell(int ago, int what) {
            if (ago < 0 || ago >= logCount || what < 0 || what >= LOG_CELLS) {
                return NONE;
            }
            return logCells[Math.floorMod(logNext - 1 - ago, LOG_ROWS) * LOG_CELLS + what];
        }
    }

    /** The states ahead of the latest acts, in a ring. */
    private static final class History {
        final State[] states = new State[MOST_ACTS];
        int acts = 0;
        int next = 0;

        History() {
            for (int i = 0; i < MOST_ACTS; i++) {
                states[i] = new State();
            }
        }

        void clear() {
            acts = 0;
        }

        void remember(State state) {
            states[Math.floorMod(next, MOST_ACTS)].copyFrom(state);
            next = (next + 1) % MOST_ACTS;
            acts = Math.min(MOST_ACTS, acts + 1);
        }

        boolean goBack(State state) {
            if (acts <= 0) {
                return false;
            }
            next = Math.floorMod(next - 1, MOST_ACTS);
            acts--;
            state.copyFrom(states[next]);
            return true;
        }
    }

    /** Bytes that were fed, and the things of a text (words, numbers, signs) that they make up. */
    private static final class Tape {
        final int[] bytes = new int[MOST_BYTES];
        int length = 0;
        /** The last thing is the END, so there may be one more than bytes. */
        final int[] things = new int[MOST_BYTES + 1];
        final int[] begins = new int[MOST_BYTES + 1];
        /** Of a word which one it is, of digits their number, of a sign its byte; NONE, if it cannot be. */
        final int[] tells = new int[MOST_BYTES + 1];
        int met = 0;
        int wrong = NONE;

        void append(int n) {
            for (int shift = 24; shift >= 0 && length < MOST_BYTES; shift -= 8) {
                bytes[length] = n >>> shift & 255;
                length++;
            }
        }

        /** Uses the bytes up. */
        void scan() {
            int count = 0;
            int at = endOfRun(0, ' ', ' ');
            for (; at < length && count < MOST_BYTES; count++) {
                begins[count] = at;
                at = endOfRun(scanThing(count, at), ' ', ' ');
            }
            things[count] = END;
            begins[count] = length;
            tells[count] = NONE;
            met = 0;
            wrong = NONE;
            length = 0;
        }

        /** Answers where the thing ends, at least one byte on. */
        private int scanThing(int count, int at) {
            int behind = endOfRun(at, 'a', 'z');
            if (behind > at) {
                things[count] = WORD;
                tells[count] = wordAt(at, behind);
                return behind;
            }
            behind = endOfRun(at, '0', '9');
            if (behind > at) {
                things[count] = DIGITS;
                tells[count] = behind - at > 3 ? NONE : numberAt(at, behind);
                return behind;
            }
            things[count] = SIGN;
            tells[count] = bytes[at];
            return at + 1;
        }

        private int endOfRun(int from, int least, int most) {
            int at = from;
            while (at < length && bytes[at] >= least && bytes[at] <= most) {
                at++;
            }
            return at;
        }

        private int numberAt(int from, int to) {
            int n = 0;
            for (int at = from; at < to; at++) {
                n = 10 * n + bytes[at] - '0';
            }
            return n;
        }

        private int wordAt(int from, int to) {
            int word = 0;
            int begin = 0;
            for (int i = 0; i <= WORDS.length(); i++) {
                if (i == WORDS.length() || WORDS.charAt(i) == ' ') {
                    if (i - begin == to - from && isSame(from, begin, i - begin)) {
                        return word;
                    }
                    word++;
                    begin = i + 1;
                }
            }
            return NONE;
        }

        private boolean isSame(int from, int begin, int letters) {
            for (int i = 0; i < letters; i++) {
                if (bytes[from + i] != WORDS.charAt(begin + i)) {
                    return false;
                }
            }
            return true;
        }

        boolean is(int thing, int told) {
            return things[met] == thing && tells[met] == told;
        }

        boolean isWithin(int thing, int least, int most) {
            return things[met] == thing && tells[met] >= least && tells[met] <= most;
        }

        int told() {
            return tells[met];
        }

        /** Behind the END nothing is met. */
        void step() {
            if (things[met] != END && met < MOST_BYTES) {
                met++;
            }
        }

        /** The thing that is met cannot stand there; the begin of the END is the text's length. */
        boolean refuse() {
            wrong = begins[met];
            return false;
        }
    }

    /** What a text of work tells; nothing of it is done here, since a wrong text must leave nothing. */
    private static final class WorkText {
        private final Tape tape;
        final int[] keys = new int[MOST_CHANGES];
        final int[] values = new int[MOST_CHANGES];
        int changes = 0;
        int risk = NONE;
        int tick = NONE;

        WorkText(Tape from) {
            tape = from;
        }

        boolean parse() {
            changes = 0;
            risk = NONE;
            tick = NONE;
            tape.scan();
            if (tape.is(END, NONE)) {
                return true;
            }
            for (int line = 0; line < WORK_LINES; line++) {
                if (!readLine()) {
                    return false;
                }
                if (tape.is(END, NONE)) {
                    return true;
                }
                if (!tape.is(SIGN, ';')) {
                    return tape.refuse();
                }
                tape.step();
            }
            return tape.refuse();
        }

        private boolean readLine() {
            if (tape.is(WORD, PUT_WORD)) {
                return readChanges(true);
            }
            if (tape.is(WORD, DROP_WORD)) {
                return readChanges(false);
            }
            boolean isRisk = tape.is(WORD, RISK_WORD);
            if (!isRisk && !tape.is(WORD, TICK_WORD)) {
                return tape.refuse();
            }
            tape.step();
            if (!tape.isWithin(DIGITS, 0, isRisk ? MOST_RISK : 999)) {
                return tape.refuse();
            }
            risk = isRisk ? tape.told() : risk;
            tick = isRisk ? tick : tape.told();
            tape.step();
            return true;
        }

        private boolean readChanges(boolean valued) {
            tape.step();
            for (int i = 0; i <= MOST_CHANGES; i++) {
                if (i > 0 && !tape.isWithin(DIGITS, NONE, 999)) {
                    return true;
                }
                if (changes < 0 || changes >= MOST_CHANGES || !tape.isWithin(DIGITS, 0, KEYS - 1)) {
                    return tape.refuse();
                }
                keys[changes] = tape.told();
                values[changes] = REMOVED;
                tape.step();
                if (valued) {
                    if (!tape.isWithin(DIGITS, 0, REMOVED - 1)) {
                        return tape.refuse();
                    }
                    values[changes] = tape.told();
                    tape.step();
                }
                changes++;
            }
            return tape.refuse();
        }
    }

    /** The lines of the law, each with the codes of its condition, operators behind what they work on. */
    private static final class Law {
        /** NONE as long as there is no law. */
        int lines = NONE;
        final int[] lineWord = new int[LAW_LINES];
        final int[] lineNumber = new int[LAW_LINES];
        /** The first code behind the line's condition, which begins where the line ahead ends. */
        final int[] lineEnd = new int[LAW_LINES];
        final int[] codes = new int[MOST_BYTES];
        int codeCount = 0;
        private final int[] stack = new int[STACK];

        void copyFrom(Law other) {
            lines = other.lines;
            codeCount = other.codeCount;
            System.arraycopy(other.lineWord, 0, lineWord, 0, LAW_LINES);
            System.arraycopy(other.lineNumber, 0, lineNumber, 0, LAW_LINES);
            System.arraycopy(other.lineEnd, 0, lineEnd, 0, LAW_LINES);
            System.arraycopy(other.codes, 0, codes, 0, MOST_BYTES);
        }

        void clear() {
            lines = 0;
            codeCount = 0;
        }

        void addCode(int code) {
            if (codeCount >= 0 && codeCount < MOST_BYTES) {
                codes[codeCount] = code;
                codeCount++;
            }
        }

        void addLine(int word, int number) {
            if (lines >= 0 && lines < LAW_LINES) {
                lineWord[lines] = word;
                lineNumber[lines] = number;
                lineEnd[lines] = codeCount;
                lines++;
            }
        }

        /** The sum of the numbers of all lines with a word that hold for a write. */
        int totalOf(int word, int[] facts) {
            int total = 0;
            int begin = 0;
            for (int line = 0; line < lines && line < LAW_LINES; line++) {
                if (lineWord[line] == word && holds(begin, lineEnd[line], facts)) {
                    total += lineNumber[line];
                }
                begin = lineEnd[line];
            }
            return total;
        }

        private boolean holds(int begin, int end, int[] facts) {
            if (begin >= end) {
                return true;
            }
            int high = 0;
            for (int i = Math.max(0, begin); i < end && i < MOST_BYTES; i++) {
                int code = codes[i];
                if (code < NOT && high < STACK) {
                    stack[high] = pushed(code, facts);
                    high++;
                } else if (code == NOT && high > 0) {
                    stack[high - 1] = 1 - stack[high - 1];
                } else if (code > NOT && high > 1) {
                    high--;
                    stack[high - 1] = joined(code, stack[high - 1], stack[high]);
                }
            }
            return stack[0] != 0;
        }

        private static int pushed(int code, int[] facts) {
            switch (code) {
                case IS_HEAD:
                    return facts[FACT_KIND] == HEAD_WRITE ? 1 : 0;
                case IS_SLIP:
                    return facts[FACT_KIND] == SLIP_WRITE ? 1 : 0;
                case IS_EVEN:
                    return facts[FACT_PAGE] % 2 == 0 ? 1 : 0;
                default:
                    int fact = code - PUSH_FACT;
                    return fact >= 0 && fact < FACTS ? facts[fact] : code;
            }
        }

        private static int joined(int code, int left, int right) {
            switch (code) {
                case ADD:
                    return left + right;
                case LESS:
                    return left < right ? 1 : 0;
                case MORE:
                    return left > right ? 1 : 0;
                case AND:
                    return left & right;
                default:
                    return left | right;
            }
        }
    }

    /** Turns the text of a law into its lines and codes. */
    private static final class LawText {
        private final Tape tape;
        private final Law law;

        LawText(Tape from, Law into) {
            tape = from;
            law = into;
        }

        boolean parse() {
            law.clear();
            tape.scan();
            if (tape.is(END, NONE)) {
                return true;
            }
            for (int line = 0; line < LAW_LINES; line++) {
                if (!readLine()) {
                    return false;
                }
                if (tape.is(END, NONE)) {
                    return true;
                }
                if (!tape.is(SIGN, ';')) {
                    return tape.refuse();
                }
                tape.step();
            }
            return tape.refuse();
        }

        private boolean readLine() {
            if (!tape.isWithin(WORD, RISK_WORD, COST_WORD)) {
                return tape.refuse();
            }
            int word = tape.told();
            tape.step();
            if (!tape.isWithin(DIGITS, 0, 99)) {
                return tape.refuse();
            }
            int number = tape.told();
            tape.step();
            if (tape.is(WORD, IF_WORD)) {
                tape.step();
                if (!readCondition(0)) {
                    return false;
                }
            }
            law.addLine(word, number);
            return true;
        }

        /** C with its ALL in one: "and" joins at once, "or" when the atoms ahead of it are joined. */
        private boolean readCondition(int deep) {
            boolean joinsAnd = false;
            boolean joinsOr = false;
            for (int i = 0; i < MOST_BYTES; i++) {
                if (!readAtom(deep)) {
                    return false;
                }
                if (joinsAnd) {
                    law.addCode(AND);
                }
                joinsAnd = tape.is(WORD, AND_WORD);
                if (!joinsAnd) {
                    if (joinsOr) {
                        law.addCode(OR);
                    }
                    joinsOr = tape.is(WORD, OR_WORD);
                    if (!joinsOr) {
                        return true;
                    }
                }
                tape.step();
            }
            return tape.refuse();
        }

        private boolean readAtom(int deep) {
            boolean isNot = tape.is(WORD, NOT_WORD);
            if (isNot || tape.is(SIGN, '(')) {
                if (deep >= MOST_DEEP) {
                    return tape.refuse();
                }
                tape.step();
                return isNot ? readNegated(deep + 1) : readEnclosed(deep + 1);
            }
            if (!tape.isWithin(WORD, HEAD_WORD, EVEN_WORD)) {
                return readComparison();
            }
            law.addCode(IS_HEAD + tape.told() - HEAD_WORD);
            tape.step();
            return true;
        }

        private boolean readNegated(int deep) {
            if (!readAtom(deep)) {
                return false;
            }
            law.addCode(NOT);
            return true;
        }

        private boolean readEnclosed(int deep) {
            if (!readCondition(deep)) {
                return false;
            }
            if (!tape.is(SIGN, ')')) {
                return tape.refuse();
            }
            tape.step();
            return true;
        }

        private boolean readComparison() {
            if (!readSum()) {
                return false;
            }
            boolean isLess = tape.is(SIGN, '<');
            if (!isLess && !tape.is(SIGN, '>')) {
                return tape.refuse();
            }
            tape.step();
            if (!readSum()) {
                return false;
            }
            law.addCode(isLess ? LESS : MORE);
            return true;
        }

        private boolean readSum() {
            for (int i = 0; i < MOST_BYTES; i++) {
                boolean isFact = tape.isWithin(WORD, PAGE_WORD, TICK_WORD);
                if (!isFact && !tape.isWithin(DIGITS, 0, 999)) {
                    return tape.refuse();
                }
                law.addCode(isFact ? PUSH_FACT + tape.told() - PAGE_WORD : tape.told());
                if (i > 0) {
                    law.addCode(ADD);
                }
                tape.step();
                if (!tape.is(SIGN, '+')) {
                    return true;
                }
                tape.step();
            }
            return tape.refuse();
        }
    }

    /** One tree as it stands on the disk: its pages and its keys. */
    private static final class Walk {
        final int[] values = new int[KEYS];
        /** Of a page of the tree how many keys lie on it or beneath it; NONE of another page. */
        final int[] beneath = new int[PAGES];
        int keys = 0;
        int depth = 0;
        int size = 0;

        void read(Disk disk, int root) {
            Arrays.fill(values, NONE);
            Arrays.fill(beneath, NONE);
            depth = 0;
            size = 0;
            keys = visit(disk, root, 1);
        }

        private int visit(Disk disk, int page, int level) {
            if (!isInner(page) || beneath[page] != NONE || level > DEEPEST) {
                return 0;
            }
            beneath[page] = 0;
            size++;
            depth = Math.max(depth, level);
            int found = 0;
            for (int k = 0; k < disk.size[page] && k < ROOM; k++) {
                int one = disk.first[page * ROOM + k];
                int other = disk.second[page * ROOM + k];
                if (disk.kind[page] == BRANCH) {
                    found += visit(disk, other, level + 1);
                } else if (disk.kind[page] == LEAF && isKey(one)) {
                    values[one] = other;
                    found++;
                }
            }
            beneath[page] = found;
            return found;
        }

        boolean has(int page) {
            return isPage(page) && beneath[page] != NONE;
        }

        int keyByRank(int k) {
            int before = 0;
            for (int key = 0; key < KEYS; key++) {
                if (values[key] != NONE) {
                    if (before == k) {
                        return key;
                    }
                    before++;
                }
            }
            return NONE;
        }

        int total(int from, int to) {
            int total = 0;
            for (int key = Math.max(0, from); key <= to && key < KEYS; key++) {
                total += Math.max(0, values[key]);
            }
            return total;
        }

        int pagesShared(Walk other) {
            int shared = 0;
            for (int page = HEADS; page < PAGES; page++) {
                if (has(page) && other.has(page)) {
                    shared++;
                }
            }
            return shared;
        }

        int keysApart(Walk other) {
            int apart = 0;
            for (int key = 0; key < KEYS; key++) {
                if (values[key] != other.values[key]) {
                    apart++;
                }
            }
            return apart;
        }
    }

    /** The list of THE HEAD: which pages have rows in it, which are its slips, and what may be taken. */
    private static final class FreeList {
        final int[] freed = new int[PAGES];
        final int[] slip = new int[PAGES];
        int rows = 0;
        /** Pages freed by a later number may still be read. */
        int limit = 0;

        void read(State state) {
            Disk disk = state.disk;
            Arrays.fill(freed, NONE);
            Arrays.fill(slip, 0);
            rows = 0;
            limit = disk.ofTheHead(NUMBER);
            for (int reader = 0; reader < READERS; reader++) {
                if (state.readerVersion[reader] != NONE) {
                    limit = Math.min(limit, state.readerVersion[reader]);
                }
            }
            int at = disk.ofTheHead(LIST);
            for (int i = 0; i < PAGES && isInner(at); i++) {
                slip[at] = 1;
                readSlip(disk, at);
                at = disk.next[at];
            }
        }

        private void readSlip(Disk disk, int at) {
            for (int k = 0; k < disk.size[at] && k < ROOM; k++) {
                int page = disk.first[at * ROOM + k];
                if (isInner(page)) {
                    freed[page] = disk.second[at * ROOM + k];
                    rows++;
                }
            }
        }

        boolean isUsable(int page) {
            return isPage(page) && freed[page] != NONE && freed[page] <= limit;
        }

        int waiting() {
            int waits = 0;
            for (int page = HEADS; page < PAGES; page++) {
                if (freed[page] != NONE && !isUsable(page)) {
                    waits++;
                }
            }
            return waits;
        }
    }

    /**
     * The tree off the disk on which changes are made. The first nodes have the numbers of the pages that
     * they stand on, so that a child's number is right for both; nodes made by splits come behind them.
     */
    private static final class Draft {
        final int[] kind = new int[NODES];
        final int[] size = new int[NODES];
        final int[] first = new int[NODES * ROOM];
        final int[] second = new int[NODES * ROOM];
        final int[] fresh = new int[NODES];
        final int[] left = new int[PAGES];
        final int[] way = new int[DEEPEST];
        final int[] slot = new int[DEEPEST];
        int levels = 0;
        int nodes = 0;
        int root = NONE;
        boolean altered = false;
        /** It grew beyond what any disk could hold. */
        boolean tooBig = false;

        void load(Disk disk) {
            System.arraycopy(disk.kind, 0, kind, 0, PAGES);
            System.arraycopy(disk.size, 0, size, 0, PAGES);
            System.arraycopy(disk.first, 0, first, 0, PAGES * ROOM);
            System.arraycopy(disk.second, 0, second, 0, PAGES * ROOM);
            Arrays.fill(fresh, 0, PAGES, 0);
            Arrays.fill(left, 0);
            nodes = PAGES;
            root = disk.ofTheHead(TREE);
            altered = false;
            tooBig = false;
        }

        void apply(int key, int value) {
            if (value == REMOVED) {
                removeKey(key);
            } else {
                putKey(key, value);
            }
        }

        private void putKey(int key, int value) {
            if (root == NONE) {
                altered = true;
                root = makeNode(LEAF);
                insertAt(root, 0, key, value);
                return;
            }
            int leaf = findWay(key);
            int k = placeOf(leaf, key);
            boolean has = hasAt(leaf, k, key);
            if (leaf == NONE || has && second[leaf * ROOM + k] == value) {
                return;
            }
            renewWay();
            if (has) {
                second[leaf * ROOM + k] = value;
                return;
            }
            insertAt(leaf, k, key, value);
            for (int level = levels - 1; level >= 0; level--) {
                splitAt(level);
            }
        }

        private void removeKey(int key) {
            int leaf = root == NONE ? NONE : findWay(key);
            int k = placeOf(leaf, key);
            if (leaf == NONE || !hasAt(leaf, k, key)) {
                return;
            }
            renewWay();
            deleteAt(leaf, k);
            for (int level = levels - 1; level > 0; level--) {
                int node = way[level];
                if (size[node] == 0) {
                    deleteAt(way[level - 1], slot[level - 1]);
                } else {
                    first[way[level - 1] * ROOM + slot[level - 1]] = first[node * ROOM];
                }
            }
            if (size[root] == 0) {
                root = NONE;
            }
            lowerRoot();
        }

        /** Fills the way of a key and the slots on it; answers its leaf. */
        private int findWay(int key) {
            int node = root;
            for (levels = 0; levels < DEEPEST && isNode(node); levels++) {
                way[levels] = node;
                if (kind[node] != BRANCH) {
                    levels++;
                    return node;
                }
                int k = 0;
                while (k + 1 < size[node] && k + 1 < ROOM && first[node * ROOM + k + 1] <= key) {
                    k++;
                }
                slot[levels] = k;
                node = second[node * ROOM + k];
            }
            tooBig = true;
            return NONE;
        }

        private boolean isNode(int node) {
            return node >= HEADS && node < nodes && node < NODES;
        }

        /** Where a key stands in a leaf, or would. */
        private int placeOf(int leaf, int key) {
            if (!isNode(leaf)) {
                return 0;
            }
            int k = 0;
            while (k < size[leaf] && k < ROOM && first[leaf * ROOM + k] < key) {
                k++;
            }
            return k;
        }

        private boolean hasAt(int leaf, int k, int key) {
            return isNode(leaf) && k < size[leaf] && k < ROOM && first[leaf * ROOM + k] == key;
        }

        private void renewWay() {
            altered = true;
            for (int level = 0; level < levels; level++) {
                leave(way[level]);
                fresh[way[level]] = 1;
            }
        }

        /** Nodes made by splits never had a page. */
        private void leave(int node) {
            if (node < PAGES) {
                left[node] = 1;
            }
        }

        private void lowerRoot() {
            for (int i = 0; i < DEEPEST && isNode(root) && kind[root] == BRANCH && size[root] == 1; i++) {
                leave(root);
                root = second[root * ROOM];
            }
        }

        private int makeNode(int kindThen) {
            if (nodes < PAGES || nodes >= NODES) {
                tooBig = true;
                return NONE;
            }
            int node = nodes;
            nodes++;
            kind[node] = kindThen;
            size[node] = 0;
            fresh[node] = 1;
            return node;
        }

        private void insertAt(int node, int k, int one, int other) {
            if (!isNode(node) || k < 0 || k > size[node] || size[node] >= ROOM) {
                tooBig = true;
                return;
            }
            int at = node * ROOM + k;
            System.arraycopy(first, at, first, at + 1, size[node] - k);
            System.arraycopy(second, at, second, at + 1, size[node] - k);
            first[at] = one;
            second[at] = other;
            size[node]++;
        }

        private void deleteAt(int node, int k) {
            if (!isNode(node) || k < 0 || k >= size[node]) {
                return;
            }
            int at = node * ROOM + k;
            System.arraycopy(first, at + 1, first, at, size[node] - k - 1);
            System.arraycopy(second, at + 1, second, at, size[node] - k - 1);
            size[node]--;
        }

        /** Splits a node of the way, if it has five, and tells the branch above its least key. */
        private void splitAt(int level) {
            int node = way[level];
            if (level > 0) {
                first[way[level - 1] * ROOM + slot[level - 1]] = first[node * ROOM];
            }
            if (size[node] <= NODE_FULL) {
                return;
            }
            int made = makeNode(kind[node]);
            if (made == NONE) {
                return;
            }
            for (int k = SPLIT_STAYS; k < size[node] && k < ROOM; k++) {
                insertAt(made, k - SPLIT_STAYS, first[node * ROOM + k], second[node * ROOM + k]);
            }
            size[node] = SPLIT_STAYS;
            if (level > 0) {
                insertAt(way[level - 1], slot[level - 1] + 1, first[made * ROOM], made);
                return;
            }
            int above = makeNode(BRANCH);
            if (above != NONE) {
                insertAt(above, 0, first[node * ROOM], node);
                insertAt(above, 1, first[made * ROOM], made);
                root = above;
            }
        }
    }

    /** A commit before it is written: what changes make of the tree, which pages it takes, what it writes. */
    private static final class Plan {
        private final Draft draft = new Draft();
        private final FreeList free = new FreeList();
        /** Of a page that is taken its node, or NODES and which slip; NONE of another page. */
        private final int[] owner = new int[PAGES];
        private final int[] pageOfNode = new int[NODES];
        private final int[] slips = new int[PAGES];
        private int slipCount = 0;
        private final int[] rowPage = new int[PAGES];
        private final int[] rowFreed = new int[PAGES];
        private int rowCount = 0;
        private final int[] order = new int[PAGES + 1];
        private int writes = 0;
        private int number = 0;
        private int high = 0;
        /** Usable pages below it are taken already. */
        private int cursor = 0;
        private final int[] facts = new int[FACTS];

        /** How many writes the commit has: 0, if nothing comes of it; FULL. */
        int make(State state, int[] keys, int[] values, int changes) {
            writes = 0;
            draft.load(state.disk);
            for (int i = 0; i < changes && i < keys.length && i < values.length; i++) {
                draft.apply(keys[i], values[i]);
            }
            if (!draft.altered) {
                return 0;
            }
            number = state.disk.ofTheHead(NUMBER) + 1;
            high = state.disk.ofTheHead(HIGH);
            cursor = HEADS;
            free.read(state);
            Arrays.fill(owner, NONE);
            if (draft.tooBig || !placeNodes(draft.root, 0) || !placeSlips()) {
                return FULL;
            }
            layOut(1 - state.disk.theHead());
            return writes;
        }

        int pageOfWrite(int k) {
            return k < 0 || k >= writes || k > PAGES ? NONE : order[k];
        }

        private int take() {
            while (cursor < PAGES && (free.freed[cursor] == NONE || free.freed[cursor] > free.limit)) {
                cursor++;
            }
            if (cursor < PAGES) {
                free.freed[cursor] = NONE;
                free.rows--;
                return cursor;
            }
            if (high < HEADS || high >= PAGES) {
                return NONE;
            }
            high++;
            return high - 1;
        }

        /** Below a node that is not new there is no new one: the way of a change begins at the root. */
        private boolean placeNodes(int node, int level) {
            if (node < 0 || node >= NODES) {
                return true;
            }
            if (draft.fresh[node] == 0) {
                pageOfNode[node] = node;
                return true;
            }
            int page = take();
            if (page == NONE || level > DEEPEST) {
                return false;
            }
            owner[page] = node;
            pageOfNode[node] = page;
            if (draft.kind[node] == BRANCH) {
                for (int k = 0; k < draft.size[node] && k < ROOM; k++) {
                    if (!placeNodes(draft.second[node * ROOM + k], level + 1)) {
                        return false;
                    }
                }
            }
            return true;
        }

        /** Pages that are left, and the slips as they were, are freed by this number, so none of them is usable. */
        private boolean placeSlips() {
            for (int page = HEADS; page < PAGES; page++) {
                if (draft.left[page] == 1 || free.slip[page] == 1) {
                    free.freed[page] = number;
                    free.rows++;
                }
            }
            slipCount = 0;
            for (int i = 0; i < PAGES && free.rows > ROOM * slipCount; i++) {
                int page = take();
                if (page == NONE) {
                    return false;
                }
                owner[page] = NODES + slipCount;
                slips[slipCount] = page;
                slipCount++;
            }
            return true;
        }

        /** Rows and writes, both by rising pages, the head last. */
        private void layOut(int head) {
            rowCount = 0;
            for (int page = HEADS; page < high && page < PAGES; page++) {
                if (owner[page] != NONE) {
                    order[writes] = page;
                    writes++;
                } else if (free.freed[page] != NONE) {
                    rowPage[rowCount] = page;
                    rowFreed[rowCount] = free.freed[page];
                    rowCount++;
                }
            }
            order[writes] = head;
            writes++;
        }

        int risksOf(State state, Law law, int k) {
            gatherFacts(state, pageOfWrite(k));
            int risks = state.risk + law.totalOf(RISK_WORD, facts) - law.totalOf(SPARE_WORD, facts);
            return Math.max(0, Math.min(MOST_RISK, risks));
        }

        private int costsOf(State state, Law law, int k) {
            gatherFacts(state, pageOfWrite(k));
            return 1 + law.totalOf(COST_WORD, facts);
        }

        private void gatherFacts(State state, int page) {
            if (!isPage(page)) {
                return;
            }
            facts[FACT_PAGE] = page;
            facts[FACT_KIND] = kindOfWrite(page);
            facts[FACT_WEAR] = state.disk.wear[page] % 100;
            facts[FACT_ROWS] = rowsOfWrite(page);
            facts[FACT_VERSION] = number % 100;
            facts[FACT_READERS] = state.openReaders();
            facts[FACT_TICK] = state.tick % 100;
        }

        private int kindOfWrite(int page) {
            if (page < HEADS) {
                return HEAD_WRITE;
            }
            int node = owner[page];
            if (node < 0 || node >= NODES) {
                return SLIP_WRITE;
            }
            return draft.kind[node] == LEAF ? 0 : 1;
        }

        private int rowsOfWrite(int page) {
            if (page < HEADS) {
                return 0;
            }
            int node = owner[page];
            if (node >= NODES) {
                return Math.max(0, Math.min(ROOM, rowCount - ROOM * (node - NODES)));
            }
            return node < 0 ? 0 : draft.size[node];
        }

        /** Writes with power for so many writes, or as the draws have it; answers whether power failed. */
        boolean carryOut(State state, Law law, int power, boolean drawn) {
            if (writes <= 0) {
                return false;
            }
            for (int k = 0; k < writes; k++) {
                boolean fails = drawn ? state.draw() % 100 < risksOf(state, law, k) : k >= power;
                if (fails) {
                    state.disk.wipe(pageOfWrite(k), TORN);
                    state.losePower();
                    state.addLog(number, 1, k);
                    return true;
                }
                state.cost = Math.min(MOST_COST, state.cost + costsOf(state, law, k));
                write(state.disk, pageOfWrite(k));
            }
            state.addLog(number, 0, writes);
            return false;
        }

        private void write(Disk disk, int page) {
            if (!isInner(page)) {
                writeHead(disk, page);
            } else if (owner[page] >= NODES) {
                writeSlip(disk, page, owner[page] - NODES);
            } else if (owner[page] >= 0) {
                writeNode(disk, page, owner[page]);
            }
        }

        private int pageFor(int node) {
            return node < 0 || node >= NODES ? NONE : pageOfNode[node];
        }

        private void writeHead(Disk disk, int head) {
            disk.wipe(head, HEAD);
            disk.tellHead(head, NUMBER, number);
            disk.tellHead(head, TREE, pageFor(draft.root));
            disk.tellHead(head, LIST, slipCount == 0 ? NONE : slips[0]);
            disk.tellHead(head, HIGH, high);
        }

        private void writeSlip(Disk disk, int page, int slip) {
            disk.wipe(page, SLIP);
            for (int row = ROOM * slip; row < rowCount && row < ROOM * (slip + 1); row++) {
                disk.append(page, rowPage[row], rowFreed[row]);
            }
            disk.next[page] = slip + 1 < slipCount ? slips[slip + 1] : NONE;
        }

        private void writeNode(Disk disk, int page, int node) {
            disk.wipe(page, draft.kind[node]);
            boolean isBranch = draft.kind[node] == BRANCH;
            for (int k = 0; k < draft.size[node] && k < ROOM; k++) {
                int other = draft.second[node * ROOM + k];
                disk.append(page, draft.first[node * ROOM + k], isBranch ? pageFor(other) : other);
            }
        }
    }
}
