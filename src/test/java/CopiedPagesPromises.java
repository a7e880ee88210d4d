import java.util.NoSuchElementException;

/** Each promise by cases that were worked out by hand from the document: the ordinary, the edges, the wrong. */
public final class CopiedPagesPromises {
    private static final int NONE = -1;
    private static int wrong = 0;
    private static int asked = 0;

    private interface Call {
        void make();
    }

    private static void due(String what, long got, long want) {
        asked++;
        if (got != want) {
            wrong++;
            System.out.println(what + " answered " + got + ", due is " + want);
        }
    }

    private static void due(String what, boolean got, boolean want) {
        due(what, got ? 1 : 0, want ? 1 : 0);
    }

    private static void thrown(String what, Class<? extends RuntimeException> want, Call call) {
        asked++;
        String got = "nothing";
        try {
            call.make();
        } catch (RuntimeException e) {
            got = e.getClass().getName();
        }
        if (!got.equals(want.getName())) {
            wrong++;
            System.out.println(what + " threw " + got + ", due is " + want.getName());
        }
    }

    private static final Class<IndexOutOfBoundsException> INDEX = IndexOutOfBoundsException.class;
    private static final Class<NoSuchElementException> ELEMENT = NoSuchElementException.class;
    private static final Class<IllegalArgumentException> ARGUMENT = IllegalArgumentException.class;
    private static final Class<IllegalStateException> STATE = IllegalStateException.class;
    private static final Class<UnsupportedOperationException> UNSUPPORTED = UnsupportedOperationException.class;

    private static void type(CopiedPages x, int... bytes) {
        x.end(0);
        for (int i = 0; i < bytes.length; i += 20) {
            int[] n = new int[5];
            for (int k = 0; k < 20; k++) {
                int b = i + k < bytes.length ? bytes[i + k] : 0;
                n[k / 4] |= b << (24 - 8 * (k % 4));
            }
            x.feed(n[0], n[1], n[2], n[3], n[4]);
        }
        x.end(bytes.length);
    }

    private static void type(CopiedPages x, String text) {
        type(x, text.chars().toArray());
    }

    private static int work(CopiedPages x, String text) {
        type(x, text);
        return x.work();
    }

    private static int law(CopiedPages x, String text) {
        type(x, text);
        return x.law();
    }

    private static void badWork(CopiedPages x, String text, int fault) {
        thrown("work of '" + text + "'", ARGUMENT, () -> work(x, text));
        due("fault of '" + text + "'", x.fault(), fault);
    }

    private static void badLaw(CopiedPages x, String text, int fault) {
        thrown("law of '" + text + "'", ARGUMENT, () -> law(x, text));
        due("fault of '" + text + "'", x.fault(), fault);
    }

    /** Version 1 on page 2, a reader on it; version 2 with root 3, leaves 4 and 5, slip 6. */
    private static CopiedPages twoVersions() {
        CopiedPages x = new CopiedPages();
        work(x, "put 10 1 20 2 30 3");
        x.open(1);
        x.put(40, 4);
        x.put(50, 5);
        x.commit();
        return x;
    }

    /** Reader 0 on version 0 keeps every page: eleven versions of one key fill the disk up to page 41. */
    private static CopiedPages nearlyFull() {
        CopiedPages x = new CopiedPages();
        x.open(0);
        for (int i = 1; i <= 11; i++) {
            x.put(1, i);
            x.commit();
        }
        return x;
    }

    private static void newObject() {
        CopiedPages x = new CopiedPages();
        due("page 0 is a head", x.page(0, 0), 4);
        due("page 1 is torn", x.page(1, 0), 5);
        for (int p = 2; p < 48; p++) {
            due("page is blank", x.page(p, 0), 0);
        }
        for (int p = 0; p < 48; p++) {
            due("wear at first", x.page(p, 2), 0);
            due("part at first", x.page(p, 6), 0);
        }
        int[] head = {0, NONE, NONE, 2};
        for (int what = 0; what < 4; what++) {
            due("head 0 at first", x.head(0, what), head[what]);
            due("head 1 at first", x.head(1, what), NONE);
        }
        int[] counts = {0, 0, 0, NONE, 0, 0, 0, 2, 0, 0, 0, 0};
        for (int what = 0; what < 12; what++) {
            due("count " + what + " at first", x.count(what), counts[what]);
        }
        due("NONE", CopiedPages.NONE, -1);
        due("fault at first", x.fault(), NONE);
        due("seed at first", x.seed(1), 1);
    }

    private static void feedAndEnd() {
        CopiedPages x = new CopiedPages();
        due("end of none", x.end(0), true);
        due("end beyond none", x.end(1), false);
        for (int i = 1; i <= 20; i++) {
            due("feed", x.feed(0x20202020, 0x20202020, 0x20202020, 0x20202020, 0x20202020), 20 * i);
        }
        due("feed beyond 400", x.feed(1, 2, 3, 4, 5), NONE);
        due("end -1", x.end(-1), false);
        due("end 401", x.end(401), false);
        due("end 400", x.end(400), true);
        due("still none more", x.feed(1, 2, 3, 4, 5), NONE);
        due("end 381", x.end(381), true);
        due("feed at 381", x.feed(1, 2, 3, 4, 5), NONE);
        due("end 380", x.end(380), true);
        due("feed at 380", x.feed(0x20202020, 0x20202020, 0x20202020, 0x20202020, 0x20202020), 400);
        due("blanks alone", x.work(), 1);
        due("the tape is used up", x.feed(0x70757420, 0x37203900, 0, 0, 0), 20);
        due("end 7", x.end(7), true);
        due("the highest byte is first", x.work(), 2);
        due("put 7 9", x.value(4, 7), 9);
    }

    private static void workTexts() {
        CopiedPages x = new CopiedPages();
        due("work", work(x, " put 5 50 6 60;drop 5 ; risk 7;tick 12 "), 1);
        due("dropped", x.value(4, 5), NONE);
        due("put", x.value(4, 6), 60);
        due("risk told", x.count(4), 7);
        due("tick told", x.count(6), 12);
        due("one commit", x.count(0), 1);
        due("logged with the tick told", x.log(0, 0), 12);
        due("its cost", x.count(5), 2);
        due("nothing to undo", x.count(11), 0);
        x.put(9, 9);
        due("a text with changes waiting", work(x, "put007 1"), 2);
        due("these wait on", x.count(1), 1);
        due("and are not committed", x.value(4, 9), NONE);
        due("digits ahead of blanks", x.value(4, 7), 1);
        due("none are remembered", x.count(11), 0);
        due("an empty text", work(x, ""), 3);
        due("what alters nothing", work(x, "drop 99;put 6 60"), 4);
        due("has no number", x.count(0), 2);
        due("altered back", work(x, "put 99 1;drop 99"), 5);
        due("has a number", x.count(0), 3);
        due("14 lines", work(x, "tick 1;tick 2;tick 3;tick 4;tick 5;tick 6;tick 7;risk 0;risk 1;risk 2;"
                + "risk 3;risk 4;risk 5;tick 999"), 6);
        due("the last tick", x.count(6), 999);
        due("the last risk", x.count(4), 5);
        due("12 changes", work(x, "put 0 0 1 1 2 2 3 3 4 4 5 5;drop 0 1 2 3 4 5"), 7);
        for (int i = 8; i <= 12; i++) {
            due("text", work(x, "risk 100"), i);
        }
        badWork(x, "risk 101", 5);
        thrown("a 13th text", UNSUPPORTED, () -> work(x, "risk 3"));
        due("it was not wrong", x.fault(), NONE);
        due("and did nothing", x.count(4), 100);
        due("its tape is used up", x.feed(0, 0, 0, 0, 0), 20);
    }

    private static void wrongWork() {
        CopiedPages x = new CopiedPages();
        x.put(1, 1);
        badWork(x, ";", 0);
        badWork(x, "  ;put 1 1", 2);
        badWork(x, "put 1 1;", 8);
        badWork(x, "put 1 1 ; ", 10);
        badWork(x, "put 1;put 1 1", 5);
        badWork(x, "put 1 100", 6);
        badWork(x, "put 100 1", 4);
        badWork(x, "tick 1000", 5);
        badWork(x, "put;", 3);
        badWork(x, "drop ;", 5);
        badWork(x, "drop 1 2 100 3", 9);
        badWork(x, "drop 0001", 5);
        badWork(x, "put 1 1 drop 2", 8);
        badWork(x, "put 1 1,2 2", 7);
        badWork(x, "Put 1 1", 0);
        badWork(x, "risk", 4);
        badWork(x, "risk 1 2", 7);
        badWork(x, "risk 0100", 5);
        badWork(x, "tick head", 5);
        badWork(x, "spare 1", 0);
        badWork(x, "put 1 1\t", 7);
        badWork(x, "put 1 -1", 6);
        badWork(x, "drop 1 2 3 4 5 6;put 1 1 2 2 3 3 4 4 5 5 6 6 7", 45);
        badWork(x, "drop 1 2 3 4 5 6 7 8 9 10 11 12 13", 32);
        badWork(x, "drop 1 2 3 4 5 6 7 8 9 10 11 12;drop", 36);
        badWork(x, "tick 1;tick 1;tick 1;tick 1;tick 1;tick 1;tick 1;tick 1;tick 1;tick 1;tick 1;tick 1;tick 1;"
                + "tick 1; tick 1", 99);
        badWork(x, "tick 1;tick 1;tick 1;tick 1;tick 1;tick 1;tick 1;tick 1;tick 1;tick 1;tick 1;tick 1;tick 1;"
                + "tick 1;", 98);
        badWork(x, "risk 9;tick 9;put 1 1;drop", 26);
        due("nothing of wrong texts stays", x.count(2) + x.count(4) + x.count(6) + x.count(0), 0);
        due("acts are remembered on", x.count(11), 1);
        due("used up", x.feed(0, 0, 0, 0, 0), 20);
        x.end(0);
        due("a right one", work(x, "risk 1"), 1);
        due("has no fault", x.fault(), NONE);
    }

    private static void fullWork() {
        CopiedPages x = nearlyFull();
        thrown("a text whose commit is full", STATE, () -> work(x, "risk 9;tick 9;put 1 50"));
        due("is not wrong", x.fault(), NONE);
        due("no text more", x.count(2), 0);
        due("no risk", x.count(4), 0);
        due("no tick", x.count(6), 0);
        due("acts remembered on", x.count(11), 12);
        due("used up", x.feed(0, 0, 0, 0, 0), 20);
        x.end(0);
        due("a text without changes is not full", work(x, "risk 9"), 1);
    }

    private static void lawTexts() {
        CopiedPages x = new CopiedPages();
        due("law", law(x, "risk 10; spare 5 if head;cost 99 if not(slip or even) and 1 < 2"), 3);
        due("lines", x.count(3), 3);
        x.put(1, 1);
        badLaw(x, "risk", 4);
        due("a wrong one leaves the law", x.count(3), 3);
        due("and acts", x.count(11), 1);
        due("comes by it", x.comes(), 9000 * 95 / 100);
        due("12 lines", law(x, "cost 1;cost 1;cost 1;cost 1;cost 1;cost 1;cost 1;cost 1;cost 1;cost 1;cost 1;"
                + "cost 99"), 12);
        due("none are remembered", x.count(11), 0);
        due("two writes", x.commit(), 2);
        due("cost of both", x.count(5), 2 * (1 + 11 + 99));
        due("blanks alone", law(x, "   "), 0);
        due("no line", x.count(3), 0);
        due("no fault", x.fault(), NONE);
    }

    private static void wrongLaws() {
        CopiedPages x = new CopiedPages();
        badLaw(x, "cost 1;", 7);
        badLaw(x, "cost 100", 5);
        badLaw(x, "spare 100 if even", 6);
        badLaw(x, "put 1 1", 0);
        badLaw(x, "tick 1", 0);
        badLaw(x, "risk 099 if", 11);
        badLaw(x, "risk 0099", 5);
        badLaw(x, "risk 1 when even", 7);
        badLaw(x, "risk 1 if evens", 10);
        badLaw(x, "risk 1 if even and", 18);
        badLaw(x, "risk 1 if even or ;", 18);
        badLaw(x, "risk 1 if even not head", 15);
        badLaw(x, "risk 1 if (even", 15);
        badLaw(x, "risk 1 if (even;", 15);
        badLaw(x, "risk 1 if even)", 14);
        badLaw(x, "risk 1 if ()", 11);
        badLaw(x, "risk 1 if page", 14);
        badLaw(x, "risk 1 if page=1", 14);
        badLaw(x, "risk 1 if page<1<2", 16);
        badLaw(x, "risk 1 if page+<2", 15);
        badLaw(x, "risk 1 if page+head<2", 15);
        badLaw(x, "risk 1 if (page)<2", 15);
        badLaw(x, "risk 1 if 1000>page", 10);
        badLaw(x, "risk 1 if 999>page+0001", 19);
        badLaw(x, "risk 1 if not", 13);
        badLaw(x, "risk 1 if ((((((( even", 16);
        badLaw(x, "risk 1 if (not(not(not(even))))", 22);
        badLaw(x, "risk 1 if (not(not(not not even)))", 23);
        badLaw(x, "risk 1 if ((((not((even or head) and not head)))))", 18);
        badLaw(x, "cost 1;cost 1;cost 1;cost 1;cost 1;cost 1;cost 1;cost 1;cost 1;cost 1;cost 1;cost 1; cost 1", 85);
        due("no law", x.count(3), NONE);
        due("six deep", law(x, "risk 1 if not(not(not(even))) and ((((((head))))))"), 1);
        due("999", law(x, "risk 1 if 999+0>page"), 1);
    }

    /** 7200: it holds of the leaf on page 2 and of head 1; 8000 the leaf alone; 9000 the head alone; 10000 none. */
    private static void holds(CopiedPages x, String condition, int odds) {
        law(x, "risk 20 if not head and (" + condition + ");risk 10 if head and (" + condition + ")");
        due("odds by " + condition, x.comes(), odds);
    }

    private static void lawHolds() {
        CopiedPages x = new CopiedPages();
        work(x, "tick 137");
        x.open(2);
        x.open(3);
        x.put(1, 1);
        holds(x, "head", 9000);
        holds(x, "slip", 10000);
        holds(x, "even", 8000);
        holds(x, "page<2", 9000);
        holds(x, "page>1", 8000);
        holds(x, "page<3 and page>0", 7200);
        holds(x, "kind<1", 8000);
        holds(x, "kind>2", 9000);
        holds(x, "kind>2 and kind<4", 9000);
        holds(x, "wear<1", 7200);
        holds(x, "wear>0", 10000);
        holds(x, "rows>0", 8000);
        holds(x, "rows<1", 9000);
        holds(x, "version>0 and version<2", 7200);
        holds(x, "readers>1", 7200);
        holds(x, "readers>2", 10000);
        holds(x, "tick>36 and tick<38", 7200);
        holds(x, "not head", 8000);
        holds(x, "not not head", 9000);
        holds(x, "head or even and page>5", 9000);
        holds(x, "(head or even) and page>5", 10000);
        holds(x, "even and page>5 or head", 9000);
        holds(x, "not head and head or head", 9000);
        holds(x, "page+rows>2", 8000);
        holds(x, "1+1+1>2", 7200);
        holds(x, "2>1+1", 10000);
        holds(x, "page+kind+version<page+2", 8000);
        law(x, "risk 90;risk 90;spare 85 if head");
        due("no more than 100", x.comes(), 0);
        law(x, "risk 90;risk 90;spare 99;spare 99 if head");
        due("spared from the sum", x.comes(), 10000 * 19 / 100);
        x.risk(33);
        law(x, "");
        due("rounded down at each", x.comes(), 10000 * 67 / 100 * 67 / 100);
        x.commit();
        x.put(1, 2);
        due("three writes", x.comes(), 10000 * 67 / 100 * 67 / 100 * 67 / 100);
        law(x, "spare 33 if kind>1 and kind<3");
        due("a slip is kind 2", x.comes(), 10000 * 67 / 100 * 67 / 100);
        law(x, "spare 33 if slip and rows<2 and rows>0");
        due("its rows", x.comes(), 10000 * 67 / 100 * 67 / 100);
    }

    private static void lawOfBranches() {
        CopiedPages x = new CopiedPages();
        work(x, "put 1 1 2 2 3 3 4 4");
        x.put(5, 5);
        law(x, "risk 50 if kind>0 and kind<2 and rows<3 and rows>1");
        due("one branch of two", x.comes(), 5000);
        law(x, "risk 50 if kind<1 and rows>2");
        due("one leaf of three", x.comes(), 5000);
        law(x, "cost 7 if wear>0");
        x.commit();
        due("no page was worn", x.count(5), 2 + 5);
        x.put(5, 6);
        x.commit();
        due("page 2 and head 1 were", x.count(5), 7 + 4 + 2 * 7);
    }

    private static void pagesAndEntries() {
        CopiedPages x = twoVersions();
        int[][] pages = {
            {4, 0, 1, NONE, 0, 0, 14, NONE},
            {4, 0, 1, NONE, 0, 0, 14, NONE},
            {1, 3, 1, 2, 2, 0, 14, NONE},
            {2, 2, 1, NONE, 16, 0, 14, NONE},
            {1, 3, 1, NONE, 16, 0, 14, NONE},
            {1, 2, 1, NONE, 16, 0, 14, NONE},
            {3, 1, 1, NONE, 0, 0, 14, NONE},
            {0, 0, 0, NONE, 0, 0, 0, NONE}};
        for (int p = 0; p < pages.length; p++) {
            for (int what = 0; what < 8; what++) {
                due("page " + p + " what " + what, x.page(p, what), pages[p][what]);
            }
        }
        thrown("page -1", INDEX, () -> x.page(-1, 9));
        thrown("page 48", INDEX, () -> x.page(48, 0));
        thrown("what 8", ELEMENT, () -> x.page(2, 8));
        thrown("what -1", ELEMENT, () -> x.page(2, -1));
        int[][] entries = {{2, 0, 10, 1}, {2, 2, 30, 3}, {2, 3, NONE, NONE}, {3, 0, 10, 4}, {3, 1, 40, 5},
            {3, 2, NONE, NONE}, {5, 0, 40, 4}, {5, 1, 50, 5}, {6, 0, 2, 2}, {6, 1, NONE, NONE}, {0, 0, NONE, NONE},
            {1, 0, NONE, NONE}, {7, 0, NONE, NONE}, {4, -1, NONE, NONE}, {4, Integer.MAX_VALUE, NONE, NONE}};
        for (int[] e : entries) {
            due("entry " + e[0] + " " + e[1], x.entry(e[0], e[1], false), e[2]);
            due("entry more " + e[0] + " " + e[1], x.entry(e[0], e[1], true), e[3]);
        }
        thrown("entry -1", INDEX, () -> x.entry(-1, 0, false));
        thrown("entry 48", INDEX, () -> x.entry(48, 0, false));
        x.close(1);
        due("usable without the reader", x.page(2, 5), 1);
        due("no tenant", x.page(2, 4), 0);
        x.put(0, 0);
        x.cut(1);
        due("torn", x.page(7, 0), 5);
        due("torn has none", x.page(7, 1), 0);
        due("torn is worn", x.page(7, 2), 1);
        due("torn has no entry", x.entry(7, 0, false), NONE);
        due("written over", x.page(2, 2), 2);
        due("free all the same", x.page(2, 3), 2);
    }

    private static void headsReadersChanges() {
        CopiedPages x = twoVersions();
        int[][] heads = {{2, 3, 6, 7}, {1, 2, NONE, 3}};
        for (int h = 0; h < 2; h++) {
            for (int what = 0; what < 4; what++) {
                due("head " + h + " " + what, x.head(h, what), heads[h][what]);
            }
        }
        thrown("head 2", INDEX, () -> x.head(2, 9));
        thrown("head -1", INDEX, () -> x.head(-1, 0));
        thrown("head what 4", ELEMENT, () -> x.head(1, 4));
        thrown("head what -1", ELEMENT, () -> x.head(1, -1));
        due("reader 1", x.reader(1), 1);
        due("reader 0", x.reader(0), NONE);
        thrown("reader 4", INDEX, () -> x.reader(4));
        thrown("reader -1", INDEX, () -> x.reader(-1));
        x.put(7, 70);
        x.put(8, 100);
        due("change 0 key", x.change(0, 0), 7);
        due("change 0 value", x.change(0, 1), 70);
        due("change 1 key", x.change(1, 0), 8);
        due("change 1 removed", x.change(1, 1), 100);
        due("change 2", x.change(2, 1), NONE);
        due("change -1", x.change(-1, 0), NONE);
        thrown("change what 2", ELEMENT, () -> x.change(0, 2));
        thrown("change what -1", ELEMENT, () -> x.change(9, -1));
        due("power fails", x.cut(0), true);
        due("readers are gone", x.reader(1), NONE);
        due("changes are gone", x.change(0, 0), NONE);
    }

    private static int seedAfter(int seed, int draws) {
        int s = seed;
        for (int i = 0; i < draws; i++) {
            s = s * 1103515245 + 12345;
        }
        return s;
    }

    /** Draws from seed 1: 16838, 5758, 10113, 17515, 31051, 5627, 23010, 7419, 16212, 4086. */
    private static void ticksByDraws() {
        CopiedPages x = new CopiedPages();
        thrown("no tick", ARGUMENT, () -> x.ticks(0));
        thrown("61 ticks", ARGUMENT, () -> x.ticks(61));
        x.put(90, 90);
        due("one tick", x.ticks(1), 0);
        due("put by draws", x.value(4, 38), 13);
        due("one draw for each write", x.seed(1), seedAfter(1, 5));
        due("changes wait on", x.count(1), 1);
        due("the tick", x.count(6), 1);
        due("logged ahead of its end", x.log(0, 0), 0);
        x.seed(1);
        due("the same again", x.ticks(1), 0);
        due("draws nothing for writes", x.seed(0), seedAfter(1, 3));
        due("and has no number", x.count(0), 1);
        x.risk(100);
        x.seed(seedAfter(1, 5));
        due("power fails in each", x.ticks(1), 1);
        due("at the first write", x.page(3, 0), 5);
        due("nothing is put", x.value(4, 27), NONE);
        due("changes are gone", x.count(1), 0);
        due("failure logged", x.log(0, 2), 1);
        due("with no write", x.log(0, 3), 0);
        due("one draw", x.seed(1), seedAfter(1, 9));
        due("ticks count on", x.count(6), 3);
        x.risk(0);
        due("60 ticks", x.ticks(60), 0);
        due("are one act", x.undo(), true);
        due("undone whole", x.count(6), 3);
        CopiedPages y = new CopiedPages();
        y.put(38, 1);
        y.commit();
        y.seed(seedOfRemoval(38));
        y.ticks(1);
        due("removed by draws", y.value(4, 38), NONE);
        due("a tree without keys", y.head(0, 1), NONE);
    }

    private static int seedOfRemoval(int key) {
        for (int s = 1; s < 1000000; s++) {
            if ((seedAfter(s, 1) >> 16 & 32767) % 100 == key && (seedAfter(s, 2) >> 16 & 32767) % 3 == 2) {
                return s;
            }
        }
        return 0;
    }

    private static void fullTicks() {
        CopiedPages x = nearlyFull();
        int version = x.count(0);
        due("no failure", x.ticks(1), 0);
        due("full, nothing comes of it", x.count(0), version);
        due("no write is drawn for", x.seed(1), seedAfter(1, 3));
        due("but the tick", x.count(6), 1);
    }

    private static void putAndForget() {
        CopiedPages x = new CopiedPages();
        thrown("key -1", INDEX, () -> x.put(-1, 101));
        thrown("key 100", INDEX, () -> x.put(100, 0));
        thrown("value -1", ARGUMENT, () -> x.put(0, -1));
        thrown("value 101", ARGUMENT, () -> x.put(99, 101));
        for (int i = 1; i <= 12; i++) {
            due("put", x.put(i % 2 == 0 ? 0 : 99, i == 5 ? 100 : 99), i);
        }
        thrown("a 13th change", STATE, () -> x.put(0, 0));
        thrown("a wrong 13th", ARGUMENT, () -> x.put(0, 101));
        due("forget", x.forget(), 12);
        due("none is left", x.count(1), 0);
        due("forget none", x.forget(), 0);
        due("undo", x.undo(), true);
        due("undo", x.undo(), true);
        due("12 again", x.count(1), 12);
    }

    private static void commits() {
        CopiedPages x = nearlyFull();
        due("high", x.count(7), 41);
        due("rows", x.many(6), 32);
        due("waits", x.many(7), 32);
        x.put(1, 50);
        thrown("full", STATE, () -> x.commit());
        thrown("full to cut", STATE, () -> x.cut(0));
        thrown("full to store", STATE, () -> x.store());
        thrown("a wrong number first", ARGUMENT, () -> x.cut(100));
        due("the change stays", x.count(1), 1);
        due("no number", x.count(0), 11);
        due("would be none", x.would(NONE), NONE);
        due("no page", x.would(0), NONE);
        due("comes is 0", x.comes(), 0);
        x.close(0);
        due("usable", x.many(7), 0);
        due("would", x.would(NONE), 8);
        for (int k = 0; k < 7; k++) {
            due("would take the least", x.would(k), 2 + k);
        }
        due("and the head", x.would(7), 0);
        due("no more", x.would(8), NONE);
        due("below none", x.would(-2), NONE);
        due("commit", x.commit(), 8);
        due("list", x.head(0, 2), 3);
        due("32 rows", x.many(6), 32);
        due("slip 3", x.page(3, 1), 6);
        due("next slip", x.page(3, 7), 4);
        due("last slip", x.page(8, 1), 2);
        due("no next", x.page(8, 7), NONE);
        due("first row", x.entry(3, 0, false), 9);
        due("last row", x.entry(8, 1, false), 40);
        due("slips are freed", x.entry(8, 1, true), 12);
        due("high stays", x.count(7), 41);
        due("lost none", x.many(8), 0);
        due("no change", x.commit(), 0);
        x.put(1, 50);
        due("the same value", x.commit(), 0);
        due("no row in the log", x.count(10), 12);
    }

    /** A root of one child goes, and so does that child, which is not new but leaves its page. */
    private static void treesShrink() {
        CopiedPages x = new CopiedPages();
        work(x, "put 1 1 2 1 3 1 4 1 5 1 6 1 7 1 8 1");
        work(x, "put 9 1 10 1 11 1 12 1 13 1 14 1");
        due("three levels", x.tree(4, 1), 3);
        due("fourteen keys", x.tree(4, 0), 14);
        int root = x.tree(4, 3);
        due("root of two", x.page(root, 1), 2);
        int low = x.entry(root, 0, true);
        int lowLeaf = x.entry(low, 0, true);
        work(x, "drop 4 5 6 7 8 9");
        root = x.tree(4, 3);
        due("still three levels", x.tree(4, 1), 3);
        due("low branch of one", x.page(x.entry(root, 0, true), 1), 1);
        due("its leaf stays", x.entry(x.entry(root, 0, true), 0, true), lowLeaf);
        int lowBranch = x.entry(root, 0, true);
        int highBranch = x.entry(root, 1, true);
        work(x, "drop 10 11 12 13 14");
        due("the leaf is the root", x.tree(4, 3), lowLeaf);
        due("one level", x.tree(4, 1), 1);
        due("the root is left", x.page(root, 3), x.count(0));
        due("its not new child, too", x.page(lowBranch, 3), x.count(0));
        due("and the other", x.page(highBranch, 3), x.count(0));
        due("lost none", x.many(8), 0);
    }

    private static void cutsAndStores() {
        CopiedPages x = twoVersions();
        due("nothing to cut", x.cut(0), false);
        x.put(60, 6);
        thrown("cut -1", ARGUMENT, () -> x.cut(-1));
        thrown("cut 100", ARGUMENT, () -> x.cut(100));
        int writes = x.would(NONE);
        due("cut ahead of the head", x.cut(writes - 1), true);
        due("the head is torn", x.page(1, 0), 5);
        due("it tells nothing", x.head(1, 0), NONE);
        due("version stays", x.count(0), 2);
        due("cost of those made", x.count(5), 7 + writes - 1);
        due("logged number", x.log(0, 1), 3);
        due("logged kind", x.log(0, 2), 1);
        due("logged writes", x.log(0, 3), writes - 1);
        x.put(60, 6);
        due("power for all", x.cut(x.would(NONE)), false);
        due("version", x.count(0), 3);
        x.put(61, 6);
        due("power for more", x.cut(99), false);
        x.put(62, 6);
        x.seed(1);
        due("stored", x.store(), false);
        due("a draw for each", x.seed(1), seedAfter(1, x.log(0, 3)));
        due("through", storedFrom(3, 15, 2), false);
        due("15 is below 16", storedFrom(3, 16, 0), true);
        due("51 is not below 28, but 27", storedFrom(4, 28, 1), true);
        due("27 is not below 27", storedFrom(4, 27, 2), false);
        due("always", storedFrom(0, 100, 0), true);
        due("never", storedFrom(0, 0, 2), false);
    }

    /** Draws modulo 100 from seed 1: 38, 58, 13, 15, 51, 27, 10, 19, 12, 86; two writes, on page 2 and head 1. */
    private static boolean storedFrom(int drawn, int risk, int made) {
        CopiedPages x = new CopiedPages();
        x.open(3);
        x.risk(risk);
        x.put(1, 1);
        x.seed(seedAfter(1, drawn));
        boolean failed = x.store();
        due("writes made", x.log(0, 3), made);
        due("drawn for each, the torn one, too", x.seed(1), seedAfter(1, drawn + Math.min(2, made + 1)));
        due("version", x.count(0), failed ? 0 : 1);
        due("readers", x.count(8), failed ? 0 : 1);
        due("changes", x.count(1), 0);
        due("cost", x.count(5), made);
        return failed;
    }

    private static void readersAndRisk() {
        CopiedPages x = twoVersions();
        thrown("open 4", INDEX, () -> x.open(4));
        thrown("open -1", INDEX, () -> x.open(-1));
        thrown("open 1", STATE, () -> x.open(1));
        due("open 0", x.open(0), 2);
        due("two open", x.count(8), 2);
        thrown("close -1", INDEX, () -> x.close(-1));
        thrown("close 4", INDEX, () -> x.close(4));
        thrown("close 2", STATE, () -> x.close(2));
        due("close 1", x.close(1), 1);
        due("one open", x.count(8), 1);
        thrown("risk -1", ARGUMENT, () -> x.risk(-1));
        thrown("risk 101", ARGUMENT, () -> x.risk(101));
        due("risk 100", x.risk(100), 0);
        due("risk 0", x.risk(0), 100);
        due("acts", x.count(11), 8);
    }

    private static void views() {
        CopiedPages x = twoVersions();
        due("value", x.value(4, 50), 5);
        due("value of a reader", x.value(1, 30), 3);
        due("not yet there", x.value(1, 40), NONE);
        thrown("value view", INDEX, () -> x.value(5, 0));
        thrown("value view -1", INDEX, () -> x.value(-1, 0));
        thrown("value key ahead of state", INDEX, () -> x.value(0, 100));
        thrown("value key -1", INDEX, () -> x.value(4, -1));
        thrown("value state", STATE, () -> x.value(0, 0));
        int[][] trees = {{3, 1, 1, 2}, {5, 2, 3, 3}};
        for (int what = 0; what < 4; what++) {
            due("tree of reader 1", x.tree(1, what), trees[0][what]);
            due("tree of the head", x.tree(4, what), trees[1][what]);
        }
        thrown("tree view", INDEX, () -> x.tree(5, 9));
        thrown("tree what", ELEMENT, () -> x.tree(0, 4));
        thrown("tree what -1", ELEMENT, () -> x.tree(4, -1));
        thrown("tree state", STATE, () -> x.tree(0, 0));
        due("rank 0", x.rank(4, 0), 10);
        due("rank 4", x.rank(4, 4), 50);
        due("rank 5", x.rank(4, 5), NONE);
        due("rank -1", x.rank(4, -1), NONE);
        due("rank of a reader", x.rank(1, 3), NONE);
        thrown("rank view", INDEX, () -> x.rank(-1, 0));
        thrown("rank state", STATE, () -> x.rank(3, 0));
        due("sum of all", x.sum(4, 0, 99), 15);
        due("sum of a range", x.sum(4, 20, 40), 9);
        due("sum of one", x.sum(4, 20, 20), 2);
        due("sum between", x.sum(4, 21, 29), 0);
        due("sum of a reader", x.sum(1, 20, 99), 5);
        thrown("sum view", INDEX, () -> x.sum(5, 1, 0));
        thrown("sum from", INDEX, () -> x.sum(4, -1, 0));
        thrown("sum to", INDEX, () -> x.sum(4, 5, 100));
        thrown("sum back", ARGUMENT, () -> x.sum(0, 5, 4));
        thrown("sum state", STATE, () -> x.sum(0, 4, 5));
        due("unlike", x.unlike(4, 1), 2);
        due("unlike itself", x.unlike(1, 1), 0);
        due("common of none", x.common(4, 1), 0);
        x.open(0);
        x.put(50, 6);
        x.put(10, 100);
        x.put(60, 1);
        x.commit();
        due("unlike by value and presence", x.unlike(0, 4), 3);
        due("nothing common", x.common(0, 4), 0);
        x.open(2);
        x.put(61, 1);
        x.commit();
        due("one leaf common", x.common(2, 4), 1);
        thrown("common view", INDEX, () -> x.common(4, 5));
        thrown("common other", INDEX, () -> x.common(-1, 4));
        thrown("common state", STATE, () -> x.common(4, 3));
        thrown("unlike view", INDEX, () -> x.unlike(5, 4));
        thrown("unlike other", INDEX, () -> x.unlike(3, -1));
        thrown("unlike state", STATE, () -> x.unlike(3, 4));
    }

    private static void manyAndPrecious() {
        CopiedPages x = twoVersions();
        int[] many = {48 - 7, 3, 1, 1, 2, 0, 1, 1, 0, 1};
        for (int what = 0; what < 10; what++) {
            due("many " + what, x.many(what), many[what]);
        }
        thrown("many 10", ELEMENT, () -> x.many(10));
        thrown("many -1", ELEMENT, () -> x.many(-1));
        due("precious", x.precious(false), 4);
        due("loss", x.precious(true), 3);
        x.put(60, 6);
        x.put(70, 7);
        x.commit();
        due("the most keys", x.page(x.precious(false), 1), 4);
        due("loss then", x.precious(true), 4);
        CopiedPages y = new CopiedPages();
        due("precious of none", y.precious(false), NONE);
        work(y, "put 1 1");
        due("of the root alone", y.precious(true), NONE);
        work(y, "put 2 1 3 1 4 1 5 1 6 1");
        due("of two leaves of three the least page", y.precious(false),
                Math.min(y.entry(y.tree(4, 3), 0, true), y.entry(y.tree(4, 3), 1, true)));
    }

    private static void seenLikelyLook() {
        CopiedPages x = twoVersions();
        type(x);
        due("seen without rows", x.seen(), 18);
        type(x, 40, 4, 50, 5);
        due("two wrong", x.seen(), 16);
        type(x, 40, 4, 50, 100);
        due("one wrong in both", x.seen(), 18);
        type(x, 40, 9, 50, 9);
        due("neither", x.seen(), 0);
        type(x, 40, 9, 50, 9);
        due("likely none", x.likely(), NONE);
        type(x, 40, 9, 50, 9);
        due("look none", x.look(), NONE);
        type(x);
        due("likely the least", x.likely(), 1);
        type(x, 40, 4);
        due("likely the one without a wrong row", x.likely(), 4);
        type(x, 40, 4, 50, 100);
        due("likely the least of one wrong", x.likely(), 1);
        type(x, 40, 4, 50, 5);
        due("look with one", x.look(), NONE);
        type(x);
        due("look", x.look(), 40);
        x.open(0);
        x.put(3, 3);
        x.commit();
        x.open(2);
        x.put(40, 5);
        x.commit();
        type(x);
        due("3 and 40 part four in two and two", x.look(), 3);
        x.put(50, 9);
        x.commit();
        x.open(3);
        x.put(50, 8);
        x.commit();
        type(x);
        due("40 and 50 part five in twos at most, 3 in threes", x.look(), 40);
        due("used up", x.feed(0, 0, 0, 0, 0), 20);
        type(x, new int[40]);
        due("forty bytes", x.seen(), 0);
        int[] rows20 = new int[40];
        for (int row = 0; row < 20; row++) {
            rows20[2 * row] = 60 + row;
            rows20[2 * row + 1] = row < 18 ? 100 : 0;
        }
        type(x, rows20);
        due("the last two of twenty rows wrong", x.seen(), 0);
        rows20[39] = 100;
        type(x, rows20);
        due("one of twenty rows wrong", x.seen(), 31);
        for (int[] rows : new int[][] {{1}, {100, 0}, {255, 0}, {0, 101}, {0, 255}, new int[42], {1, 1, 1}}) {
            type(x, rows);
            thrown("seen", ARGUMENT, () -> x.seen());
            due("used up", x.feed(0, 0, 0, 0, 0), 20);
            type(x, rows);
            thrown("likely", ARGUMENT, () -> x.likely());
            type(x, rows);
            thrown("look", ARGUMENT, () -> x.look());
        }
        due("no fault of a text", x.fault(), NONE);
        CopiedPages y = new CopiedPages();
        y.open(3);
        due("views alike are not parted", y.look(), 0);
    }

    private static void pairsSharesRests() {
        CopiedPages x = twoVersions();
        due("a reader alone", x.pairs(1), NONE);
        x.open(0);
        x.put(60, 6);
        x.commit();
        x.open(2);
        x.open(3);
        due("pairs together", x.pairs(NONE), 1);
        int[] with = {2, NONE, 0, NONE};
        for (int r = 0; r < 4; r++) {
            due("paired " + r, x.pairs(r), with[r]);
        }
        thrown("pairs 4", INDEX, () -> x.pairs(4));
        thrown("pairs -2", INDEX, () -> x.pairs(-2));
        x.close(0);
        x.close(3);
        x.open(3);
        due("nothing common", x.pairs(NONE), 0);
        due("none is the least", x.pairs(1), NONE);
        due("sizes 0, 1, 3, 3", x.tree(2, 2), 3);
        for (int r = 0; r < 4; r++) {
            due("share of 0", x.share(r, 0), 0);
            due("share of 6 to " + r, x.share(r, 6), r == 0 ? 0 : r == 1 ? 1 : r == 2 ? 3 : 2);
            due("share of 99 to " + r, x.share(r, 99), r == 0 ? 92 : r == 1 ? 1 : 3);
        }
        due("one to the largest", x.share(2, 1), 1);
        thrown("share 4", INDEX, () -> x.share(4, 100));
        thrown("share -1", INDEX, () -> x.share(-1, 0));
        thrown("share of 100", ARGUMENT, () -> x.share(0, 100));
        thrown("share of -1", ARGUMENT, () -> x.share(0, -1));
        CopiedPages y = new CopiedPages();
        due("rests", y.rests(), 1);
        y.open(0);
        due("with a reader", y.rests(), 1);
        y.put(1, 1);
        due("with a change", y.rests(), 0);
        y.close(0);
        due("without the reader", y.rests(), 0);
    }

    private static void mostOf() {
        CopiedPages x = twoVersions();
        due("worn", x.most(0), 0);
        due("fullest", x.most(1), 4);
        due("oldest", x.most(2), 1);
        x.open(0);
        due("oldest by version", x.most(2), 1);
        x.close(1);
        x.open(3);
        due("of several the least", x.most(2), 0);
        x.put(60, 6);
        x.put(70, 7);
        x.commit();
        due("worn head", x.most(0), 1);
        due("fullest has four", x.page(x.most(1), 1), 4);
        thrown("most 3", ELEMENT, () -> x.most(3));
        thrown("most -1", ELEMENT, () -> x.most(-1));
        CopiedPages y = new CopiedPages();
        work(y, "put 1 1");
        due("a leaf of one", y.most(1), 2);
        work(y, "drop 1");
        due("no depth", y.tree(4, 1), 0);
        due("no leaf", y.most(1), NONE);
        due("no reader", y.most(2), NONE);
    }

    private static void trialsAndSpans() {
        CopiedPages x = twoVersions();
        x.seed(77);
        int version = x.trial(30, false);
        int keys = x.trial(30, true);
        due("nothing stays", x.count(6) + x.seed(77), 77);
        due("acts", x.count(11), 4);
        due("trial of none", x.trial(0, false), 2);
        due("keys now", x.trial(0, true), 5);
        int least = 999;
        int greatest = 0;
        for (int s = 1; s <= 6; s++) {
            x.seed(s);
            least = Math.min(least, x.trial(13, true));
            greatest = Math.max(greatest, x.trial(13, true));
        }
        due("least", x.span(13, false), least);
        due("greatest", x.span(13, true), greatest);
        due("they are unlike", least < greatest, true);
        due("the seed stays", x.seed(77), 6);
        due("span of none", x.span(0, false), 5);
        x.ticks(30);
        due("as it came", x.count(0), version);
        due("keys as they came", x.tree(4, 0), keys);
        due("60 is the most", x.span(60, true) >= x.span(60, false) && x.trial(60, true) >= 0, true);
        CopiedPages y = new CopiedPages();
        due("no key", y.span(0, true), 0);
        due("no key at least", y.span(0, false), 0);
        thrown("trial 61", ARGUMENT, () -> x.trial(61, false));
        thrown("trial -1", ARGUMENT, () -> x.trial(-1, false));
        thrown("span 61", ARGUMENT, () -> x.span(61, true));
        thrown("span -1", ARGUMENT, () -> x.span(-1, true));
    }

    private static void ledAndLog() {
        CopiedPages x = twoVersions();
        due("rows", x.count(10), 2);
        due("led", x.led(0, false), 2);
        due("tick", x.led(0, true), 0);
        due("no failure", x.led(1, true), NONE);
        work(x, "tick 41");
        x.put(1, 1);
        x.cut(2);
        due("failures", x.led(1, false), 1);
        due("its tick", x.led(1, true), 41);
        due("the other kind's", x.led(0, true), 0);
        int[] row = {41, 3, 1, 2};
        for (int what = 0; what < 4; what++) {
            due("log " + what, x.log(0, what), row[what]);
        }
        due("ago", x.log(1, 1), 2);
        due("the first", x.log(2, 3), 2);
        due("ahead of it", x.log(3, 0), NONE);
        due("ago -1", x.log(-1, 0), NONE);
        thrown("log what 4", ELEMENT, () -> x.log(9, 4));
        thrown("log what -1", ELEMENT, () -> x.log(0, -1));
        thrown("led 2", ELEMENT, () -> x.led(2, false));
        thrown("led -1", ELEMENT, () -> x.led(-1, false));
        for (int i = 0; i < 70; i++) {
            x.put(1, i);
            x.commit();
        }
        due("60 at most", x.count(10), 60);
        due("led of these", x.led(0, false), 60);
        due("the failure is forgotten", x.led(1, false), 0);
        due("the latest", x.log(0, 1), 72);
        due("the oldest", x.log(59, 1), 13);
        due("none ahead", x.log(60, 1), NONE);
    }

    private static void goingBack() {
        CopiedPages x = new CopiedPages();
        due("nothing to undo", x.undo(), false);
        for (int i = 1; i <= 14; i++) {
            x.risk(i);
        }
        due("12 are remembered", x.count(11), 12);
        for (int i = 0; i < 12; i++) {
            due("undo", x.undo(), true);
        }
        due("not a 13th", x.undo(), false);
        due("risk of then", x.count(4), 2);
        x.put(1, 1);
        x.seed(9);
        x.image();
        due("no act", x.count(11), 1);
        due("undo with the seed", x.undo(), true);
        due("as ahead", x.seed(4), 1);
        due("change undone", x.count(1), 0);
        due("back", x.back(), true);
        due("the change", x.count(1), 1);
        due("the seed", x.seed(1), 9);
        due("none remembered", x.undo(), false);
        law(x, "risk 3");
        work(x, "put 5 5");
        due("back again", x.back(), true);
        due("no law", x.count(3), NONE);
        due("no text", x.count(2), 0);
        due("no version", x.count(0), 0);
        due("no log", x.count(10), 0);
        due("blank", x.page(2, 0), 0);
        due("not worn", x.page(2, 2), 0);
        type(x, "put");
        thrown("a wrong text", ARGUMENT, () -> x.work());
        type(x, "drop 1");
        x.back();
        due("the fault stays", x.fault(), 3);
        due("the tape stays", x.work(), 1);
        CopiedPages y = new CopiedPages();
        due("no image", y.back(), false);
        y.risk(1);
        due("nothing happens", y.back(), false);
        due("acts stay", y.count(11), 1);
        CopiedPages z = twoVersions();
        z.put(1, 1);
        z.risk(100);
        due("power fails", z.store(), true);
        due("undo", z.undo(), true);
        due("the reader is back", z.reader(1), 1);
        due("the change is back", z.count(1), 1);
        due("the draw is back", z.seed(1), 1);
        due("the log is back", z.count(10), 2);
        due("the wear is back", z.page(7, 2), 0);
        due("commit", z.commit() > 0, true);
        due("seed n", z.seed(Integer.MIN_VALUE), 1);
        due("seed what it was", z.seed(0), Integer.MIN_VALUE);
    }

    /** A commit that writes a head alone, and one torn write that is all wear there is. */
    private static void headAlone() {
        CopiedPages x = new CopiedPages();
        x.put(1, 1);
        x.put(1, 100);
        due("one write", x.would(NONE), 1);
        due("the head", x.would(0), 1);
        due("commit", x.commit(), 1);
        due("number", x.count(0), 1);
        due("no tree", x.head(1, 1), NONE);
        due("logged", x.log(0, 3), 1);
        CopiedPages y = new CopiedPages();
        y.put(1, 1);
        y.cut(0);
        due("all wear", y.page(2, 6), 100);
        due("none", y.page(0, 6), 0);
        due("worn", y.most(0), 2);
        due("torn", y.many(5), 2);
    }

    /** The law's wear, version and tick go round at 100. */
    private static void lawGoesRound() {
        CopiedPages x = new CopiedPages();
        law(x, "risk 50 if head and version<1");
        for (int i = 1; i < 100; i++) {
            x.put(1, i);
            x.commit();
        }
        x.put(1, 0);
        due("version 100", x.comes(), 5000);
        law(x, "risk 50 if head and wear<1");
        due("wear 49", x.comes(), 10000);
        for (int i = 100; i < 200; i++) {
            x.put(1, i % 100);
            x.commit();
        }
        x.put(1, 50);
        due("wear 99 of head 0", x.comes(), 10000);
        x.commit();
        x.put(1, 0);
        due("head 1 was written 100 times", x.page(1, 2), 100);
        due("wear 0", x.comes(), 5000);
        x.commit();
        x.put(1, 1);
        due("and head 0", x.page(0, 2), 100);
        due("wear 0 again", x.comes(), 5000);
        law(x, "risk 50 if head and tick<1");
        work(x, "tick 200");
        due("tick 200", x.comes(), 5000);
    }

    private static void manyThings() {
        CopiedPages x = new CopiedPages();
        StringBuilder signs = new StringBuilder();
        StringBuilder sums = new StringBuilder("cost 5 if 1");
        for (int i = 0; i < 400; i++) {
            signs.append(';');
        }
        while (sums.length() < 398) {
            sums.append("+1");
        }
        badWork(x, signs.toString(), 0);
        badLaw(x, signs.toString(), 0);
        badLaw(x, sums.toString(), sums.length());
        sums.setLength(396);
        due("a long sum", law(x, sums.substring(0, 395) + ">193"), 1);
        work(x, "put 1 1");
        due("it is no more", x.count(5), 2);
        due("a long sum", law(x, sums.substring(0, 395) + ">192"), 1);
        work(x, "put 2 1");
        due("it is more", x.count(5), 2 + 3 * 6);
    }

    private static void counts() {
        CopiedPages x = twoVersions();
        law(x, "cost 1;cost 2 if head");
        x.put(1, 1);
        x.risk(8);
        int[] counts = {2, 1, 1, 2, 8, 7, 0, 7, 1, 0, 2, 2};
        for (int what = 0; what < 12; what++) {
            due("count " + what, x.count(what), counts[what]);
        }
        due("count 12", x.count(12), NONE);
        due("count -1", x.count(-1), NONE);
        x.commit();
        due("the other head", x.count(9), 1);
    }

    private static void bounds() {
        CopiedPages x = new CopiedPages();
        law(x, "cost 99;cost 99;cost 99;cost 99;cost 99;cost 99;cost 99;cost 99;cost 99;cost 99;cost 99;cost 99");
        work(x, "tick 999");
        for (int i = 0; i < 160; i++) {
            x.ticks(60);
        }
        due("tick 9999 at most", x.count(6), 9999);
        due("cost 99999 at most", x.count(5), 99999);
        for (int i = 0; i < 340; i++) {
            x.ticks(60);
        }
        due("wear 9999 at most", x.page(0, 2), 9999);
        due("of both heads", x.page(1, 2), 9999);
        due("lost none", x.many(8), 0);
    }

    public static void main(String[] args) {
        newObject();
        feedAndEnd();
        workTexts();
        wrongWork();
        fullWork();
        lawTexts();
        wrongLaws();
        lawHolds();
        lawOfBranches();
        pagesAndEntries();
        headsReadersChanges();
        ticksByDraws();
        fullTicks();
        putAndForget();
        commits();
        treesShrink();
        cutsAndStores();
        readersAndRisk();
        views();
        manyAndPrecious();
        seenLikelyLook();
        pairsSharesRests();
        mostOf();
        trialsAndSpans();
        ledAndLog();
        goingBack();
        headAlone();
        lawGoesRound();
        manyThings();
        counts();
        bounds();
        System.out.println(asked + " cases of the promises, " + wrong + " wrong");
        if (wrong > 0) {
            System.exit(1);
        }
    }
}
