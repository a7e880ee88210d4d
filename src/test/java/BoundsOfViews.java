/** Boundary cases of promises 21 to 30: values, trees, ranks, sums, two views, what a commit would do, losses. */
public final class BoundsOfViews extends Cases {
    private static CopiedPages nearlyFullWaiting() {
        CopiedPages x = nearlyFull();
        put(x, 1, 50);
        return x;
    }

    /** Keys 1 to 14: a root of two branches with nine keys and five beneath them. */
    private static CopiedPages threeLevels() {
        CopiedPages x = fresh();
        work(x, "put 1 1 2 1 3 1 4 1 5 1 6 1 7 1 8 1 9 1 10 1 11 1");
        work(x, "put 12 1 13 1 14 1");
        return x;
    }

    private static CopiedPages openOnNothing() {
        CopiedPages x = fresh();
        x.open(0);
        return x;
    }

    // ---- promise 21

    static void promise21ViewsFrom0To4() {
        CopiedPages x = busy();
        due("0", x.value(0, 50), 5);
        due("1", x.value(1, 50), NONE);
        due("3", x.value(3, 60), 6);
        due("4", x.value(4, 60), 6);
        refused("-1", INDEX, y -> y.value(-1, 0));
        refused("5", INDEX, y -> y.value(5, 0));
        refused("the least", INDEX, y -> y.value(Integer.MIN_VALUE, 0));
        refused("the greatest", INDEX, y -> y.value(Integer.MAX_VALUE, 0));
    }

    static void promise21KeysFrom0To99() {
        CopiedPages x = fresh();
        work(x, "put 0 99 99 0");
        due("key 0", x.value(4, 0), 99);
        due("key 99, VALUE 0", x.value(4, 99), 0);
        due("none", x.value(4, 50), NONE);
        refused("-1", INDEX, y -> y.value(4, -1));
        refused("100", INDEX, y -> y.value(4, 100));
        refused("the least", INDEX, y -> y.value(4, Integer.MIN_VALUE));
        refused("the greatest", INDEX, y -> y.value(4, Integer.MAX_VALUE));
    }

    static void promise21TheReaderIsNotOpen() {
        refused("2", STATE, y -> y.value(2, 10));
        refused("2, no such KEY", INDEX, y -> y.value(2, 100));
        refused("closed", STATE, Cases::fresh, y -> y.value(0, 0));
    }

    static void promise21WithoutATree() {
        due("THE HEAD", fresh().value(4, 0), NONE);
        due("a READER", openOnNothing().value(0, 0), NONE);
    }

    static void promise21ChangesThatWaitAreNotInIt() {
        CopiedPages x = busy();
        due("put", x.value(4, 70), NONE);
        due("removed", x.value(4, 10), 1);
    }

    // ---- promise 22

    static void promise22ViewsFrom0To4() {
        CopiedPages x = busy();
        int[][] trees = {{5, 2, 3, 3}, {3, 1, 1, 2}, {}, {6, 2, 3, 7}, {6, 2, 3, 7}};
        for (int view = 0; view < 5; view++) {
            for (int what = 0; what < trees[view].length; what++) {
                due("view " + view + " what " + what, x.tree(view, what), trees[view][what]);
            }
        }
        refused("-1", INDEX, y -> y.tree(-1, 0));
        refused("5", INDEX, y -> y.tree(5, 0));
        refused("the least", INDEX, y -> y.tree(Integer.MIN_VALUE, 0));
        refused("the greatest", INDEX, y -> y.tree(Integer.MAX_VALUE, 0));
    }

    static void promise22WhatFrom0To3() {
        refused("-1", ELEMENT, y -> y.tree(4, -1));
        refused("4", ELEMENT, y -> y.tree(4, 4));
        refused("the least", ELEMENT, y -> y.tree(4, Integer.MIN_VALUE));
        refused("the greatest", ELEMENT, y -> y.tree(4, Integer.MAX_VALUE));
    }

    static void promise22WhatIsAskedFirst() {
        refused("VIEW and what", INDEX, y -> y.tree(5, 4));
        refused("what and not OPEN", ELEMENT, y -> y.tree(2, 4));
        refused("not OPEN", STATE, y -> y.tree(2, 0));
        refused("not OPEN, the root", STATE, y -> y.tree(2, 3));
    }

    static void promise22WithoutATree() {
        CopiedPages x = openOnNothing();
        int[] none = {0, 0, 0, NONE};
        for (int what = 0; what < 4; what++) {
            due("THE HEAD, what " + what, x.tree(4, what), none[what]);
            due("a READER, what " + what, x.tree(0, what), none[what]);
        }
    }

    static void promise22TheRootAlone() {
        CopiedPages x = fresh();
        work(x, "put 1 1");
        int[] one = {1, 1, 1, 2};
        for (int what = 0; what < 4; what++) {
            due("what " + what, x.tree(4, what), one[what]);
        }
    }

    static void promise22ThreeLevels() {
        CopiedPages x = threeLevels();
        due("COUNT", x.tree(4, 0), 14);
        due("DEPTH", x.tree(4, 1), 3);
        due("SIZE", x.tree(4, 2), 8);
    }

    // ---- promise 23

    static void promise23FromTheLeastToTheLast() {
        CopiedPages x = busy();
        for (int k = 0; k < 6; k++) {
            due("rank " + k, x.rank(4, k), 10 + 10 * k);
        }
        due("behind the last", x.rank(4, 6), NONE);
        due("below 0", x.rank(4, -1), NONE);
        due("the least", x.rank(4, Integer.MIN_VALUE), NONE);
        due("the greatest", x.rank(4, Integer.MAX_VALUE), NONE);
        due("a READER's last", x.rank(1, 2), 30);
        due("behind it", x.rank(1, 3), NONE);
    }

    static void promise23Keys0And99() {
        CopiedPages x = fresh();
        work(x, "put 99 1 0 1");
        due("0", x.rank(4, 0), 0);
        due("99", x.rank(4, 1), 99);
        due("no more", x.rank(4, 2), NONE);
    }

    static void promise23WithoutATree() {
        due("THE HEAD", fresh().rank(4, 0), NONE);
        due("a READER", openOnNothing().rank(0, 0), NONE);
    }

    static void promise23RefusedViews() {
        refused("-1", INDEX, y -> y.rank(-1, 0));
        refused("5", INDEX, y -> y.rank(5, 0));
        refused("the greatest", INDEX, y -> y.rank(Integer.MAX_VALUE, -1));
        refused("not OPEN", STATE, y -> y.rank(2, 0));
        refused("not OPEN, below 0", STATE, y -> y.rank(2, -1));
    }

    // ---- promise 24

    static void promise24BothKeysAreWithin() {
        CopiedPages x = busy();
        due("all", x.sum(4, 0, 99), 21);
        due("from 20 to 40", x.sum(4, 20, 40), 9);
        due("from 21", x.sum(4, 21, 40), 7);
        due("to 39", x.sum(4, 20, 39), 5);
        due("one", x.sum(4, 30, 30), 3);
        due("none", x.sum(4, 31, 31), 0);
        due("a READER", x.sum(1, 0, 99), 6);
    }

    static void promise24Keys0And99() {
        CopiedPages x = fresh();
        work(x, "put 0 98 99 99 50 0");
        due("all", x.sum(4, 0, 99), 197);
        due("0 alone", x.sum(4, 0, 0), 98);
        due("99 alone", x.sum(4, 99, 99), 99);
        due("between", x.sum(4, 1, 98), 0);
        refused("from -1", INDEX, y -> y.sum(4, -1, 5));
        refused("from 100", INDEX, y -> y.sum(4, 100, 100));
        refused("to 100", INDEX, y -> y.sum(4, 5, 100));
        refused("to -1", INDEX, y -> y.sum(4, 5, -1));
        refused("the greatest", INDEX, y -> y.sum(4, 5, Integer.MAX_VALUE));
        refused("the least", INDEX, y -> y.sum(4, Integer.MIN_VALUE, 5));
    }

    static void promise24TheSecondIsLess() {
        due("the same", busy().sum(4, 50, 50), 5);
        refused("by one", ARGUMENT, y -> y.sum(4, 50, 49));
        refused("99 and 0", ARGUMENT, y -> y.sum(4, 99, 0));
    }

    static void promise24WhatIsAskedFirst() {
        refused("VIEW and KEYS", INDEX, y -> y.sum(5, 5, 4));
        refused("VIEW -1", INDEX, y -> y.sum(-1, 4, 5));
        refused("KEYS and not OPEN", ARGUMENT, y -> y.sum(2, 5, 4));
        refused("no KEY and not OPEN", INDEX, y -> y.sum(2, 5, 100));
        refused("not OPEN", STATE, y -> y.sum(2, 4, 5));
    }

    static void promise24WithoutATree() {
        due("THE HEAD", fresh().sum(4, 0, 99), 0);
        due("a READER", openOnNothing().sum(0, 0, 99), 0);
    }

    // ---- promises 25 and 26

    static void promise25TwoViews() {
        CopiedPages x = busy();
        due("one leaf", x.common(0, 4), 1);
        due("and back", x.common(4, 0), 1);
        due("nothing", x.common(0, 1), 0);
        due("the same tree", x.common(3, 4), 3);
    }

    static void promise25WithItself() {
        CopiedPages x = busy();
        due("THE HEAD", x.common(4, 4), 3);
        due("a READER", x.common(1, 1), 1);
        due("without a tree", fresh().common(4, 4), 0);
        due("both without", openOnNothing().common(0, 4), 0);
    }

    static void promise25RefusedViews() {
        refused("-1", INDEX, y -> y.common(-1, 4));
        refused("5", INDEX, y -> y.common(5, 4));
        refused("the other -1", INDEX, y -> y.common(4, -1));
        refused("the other 5", INDEX, y -> y.common(4, 5));
        refused("one not OPEN, one none", INDEX, y -> y.common(2, 5));
        refused("not OPEN", STATE, y -> y.common(2, 4));
        refused("the other not OPEN", STATE, y -> y.common(4, 2));
        refused("not OPEN with itself", STATE, y -> y.common(2, 2));
    }

    static void promise26TwoViews() {
        CopiedPages x = busy();
        due("one more", x.unlike(0, 4), 1);
        due("and back", x.unlike(4, 0), 1);
        due("three more", x.unlike(1, 4), 3);
        due("two more", x.unlike(1, 0), 2);
        due("the same tree", x.unlike(3, 4), 0);
    }

    static void promise26AnotherValueCountsOnce() {
        CopiedPages x = fresh();
        work(x, "put 0 0 1 1 99 5");
        x.open(0);
        work(x, "put 0 1;put 98 5;drop 99");
        due("changed, new, gone", x.unlike(0, 4), 3);
        work(x, "put 0 0;drop 98;put 99 5");
        due("all as before on other pages", x.unlike(0, 4), 0);
        due("nothing in common", x.common(0, 4), 0);
    }

    static void promise26ValueZeroIsNotNone() {
        CopiedPages x = openOnNothing();
        work(x, "put 5 0");
        due("it is there", x.unlike(0, 4), 1);
    }

    static void promise26WithItself() {
        due("THE HEAD", busy().unlike(4, 4), 0);
        due("a READER", busy().unlike(1, 1), 0);
        due("without a tree", fresh().unlike(4, 4), 0);
    }

    static void promise26RefusedViews() {
        refused("-1", INDEX, y -> y.unlike(-1, 4));
        refused("5", INDEX, y -> y.unlike(5, 4));
        refused("the other -1", INDEX, y -> y.unlike(4, -1));
        refused("the other 5", INDEX, y -> y.unlike(4, 5));
        refused("one not OPEN, one none", INDEX, y -> y.unlike(2, 5));
        refused("not OPEN", STATE, y -> y.unlike(2, 4));
        refused("the other not OPEN", STATE, y -> y.unlike(4, 2));
        refused("not OPEN with itself", STATE, y -> y.unlike(2, 2));
    }

    // ---- promise 27

    static void promise27FromTheFirstToTheHead() {
        CopiedPages x = busy();
        due("how many", x.would(NONE), 6);
        int[] pages = {10, 11, 12, 13, 14, 0};
        for (int k = 0; k < 6; k++) {
            due("write " + k, x.would(k), pages[k]);
        }
        int[] beyond = {6, 7, 47, 48, 49, 100, -2, Integer.MIN_VALUE, Integer.MAX_VALUE};
        for (int k : beyond) {
            due("write " + k, x.would(k), NONE);
        }
    }

    static void promise27NothingWouldComeOfIt() {
        CopiedPages x = twoVersions();
        due("no CHANGE", x.would(NONE), 0);
        due("no write", x.would(0), NONE);
        put(x, 10, 1, 11, 100);
        due("nothing altered", x.would(NONE), 0);
        due("no write", x.would(0), NONE);
        due("no write", x.would(-2), NONE);
    }

    static void promise27Full() {
        CopiedPages x = nearlyFullWaiting();
        due("none", x.would(NONE), NONE);
        due("the first", x.would(0), NONE);
        due("the second", x.would(1), NONE);
        x.forget();
        put(x, 1, 100);
        due("seven and the head", x.would(NONE), 8);
        due("page 47", x.would(6), 47);
        due("the head", x.would(7), 0);
    }

    static void promise27TheHeadAlone() {
        CopiedPages x = fresh();
        put(x, 1, 1, 1, 100);
        due("one", x.would(NONE), 1);
        due("head 1", x.would(0), 1);
        due("no more", x.would(1), NONE);
    }

    static void promise27NothingChanges() {
        CopiedPages x = busy();
        x.would(NONE);
        x.would(3);
        x.would(99);
        same("asked", x, busy());
        CopiedPages y = nearlyFullWaiting();
        y.would(NONE);
        same("asked of FULL", y, nearlyFullWaiting());
    }

    // ---- promise 28

    static void promise28RoundedDownAtEachWrite() {
        due("five at 65, one at 55", busy().comes(), 637);
        CopiedPages x = fresh();
        put(x, 1, 1);
        x.risk(33);
        due("67, and 67 of that", x.comes(), 4489);
        x.commit();
        put(x, 1, 2);
        due("3007.63 is 3007", x.comes(), 3007);
    }

    static void promise28WithoutWrites() {
        CopiedPages x = fresh();
        x.risk(100);
        due("no CHANGE", x.comes(), 10000);
        put(x, 1, 100);
        due("nothing altered", x.comes(), 10000);
    }

    static void promise28Full() {
        CopiedPages x = nearlyFullWaiting();
        due("FULL", x.comes(), 0);
        x.forget();
        due("no CHANGE", x.comes(), 10000);
        put(x, 1, 100);
        due("room for all", x.comes(), 10000);
    }

    static void promise28AtRisk0And100() {
        CopiedPages x = fresh();
        put(x, 1, 1);
        due("0", x.comes(), 10000);
        x.risk(100);
        due("100", x.comes(), 0);
        x.risk(99);
        due("99", x.comes(), 1);
        law(x, "risk 1 if head");
        due("99 and 100", x.comes(), 0);
        law(x, "spare 99 if head");
        due("99 and 0", x.comes(), 100);
    }

    static void promise28NothingChanges() {
        CopiedPages x = busy();
        x.comes();
        same("asked", x, busy());
    }

    // ---- promise 29

    static void promise29WhatFrom0To9() {
        CopiedPages x = lastSlipEmpty();
        int[] many = {33, 6, 1, 6, 2, 0, 6, 0, 0, 0};
        for (int what = 0; what < 10; what++) {
            due("what " + what, x.many(what), many[what]);
        }
        refused("-1", ELEMENT, y -> y.many(-1));
        refused("10", ELEMENT, y -> y.many(10));
        refused("the least", ELEMENT, y -> y.many(Integer.MIN_VALUE));
        refused("the greatest", ELEMENT, y -> y.many(Integer.MAX_VALUE));
    }

    static void promise29ANewObject() {
        CopiedPages x = fresh();
        int[] many = {46, 0, 0, 0, 1, 1, 0, 0, 0, 0};
        for (int what = 0; what < 10; what++) {
            due("what " + what, x.many(what), many[what]);
        }
    }

    static void promise29TornPagesAndHeads() {
        CopiedPages x = fresh();
        put(x, 1, 1);
        x.cut(0);
        due("page 2 and head 1", x.many(5), 2);
        due("one HEAD", x.many(4), 1);
        due("BLANK", x.many(0), 45);
        put(x, 1, 1);
        x.commit();
        due("none is TORN", x.many(5), 0);
        due("two HEADS", x.many(4), 2);
    }

    static void promise29WaitsByTheReadersVersion() {
        CopiedPages x = twoVersions();
        due("FREED 2, a READER on 1", x.many(7), 1);
        x.open(0);
        x.close(1);
        due("FREED 2, a READER on 2", x.many(7), 0);
        due("a row all the same", x.many(6), 1);
        due("all rows", nearlyFull().many(7), 32);
    }

    static void promise29Pinned() {
        CopiedPages x = twoVersions();
        due("page 2", x.many(9), 1);
        x.open(0);
        due("a tree that is THE HEAD's pins nothing", x.many(9), 1);
        put(x, 60, 6);
        x.commit();
        due("page 2, root 3, leaf 5", x.many(9), 3);
        x.close(1);
        due("root 3, leaf 5", x.many(9), 2);
        x.open(1);
        x.close(0);
        due("none", x.many(9), 0);
    }

    static void promise29PinnedByTwoCountsOnce() {
        CopiedPages x = fresh();
        work(x, "put 1 1");
        x.open(0);
        x.open(1);
        work(x, "put 1 2");
        due("page 2", x.many(9), 1);
    }

    static void promise29NoneIsLost() {
        CopiedPages x = busy();
        for (int n = 0; n < 6; n++) {
            x.cut(n);
            due("cut off at " + n, x.many(8), 0);
            put(x, 70, n, 10, n);
        }
        x.commit();
        due("committed", x.many(8), 0);
        due("FULL", nearlyFull().many(8), 0);
        due("used up", usedUp().many(8), 0);
    }

    /** Each is asked on its own, behind a question about the LIST as it was ahead of a COMMIT. */
    static void promise29TheListAsItIsNow() {
        int[] after = {0, 0, 0, 0, 0, 0, 3, 3, 0, 2};
        for (int what = 6; what < 10; what++) {
            CopiedPages x = fresh();
            work(x, "put 1 1 2 2 3 3 4 4");
            x.open(0);
            due("no row", x.many(6), 0);
            put(x, 5, 5);
            x.commit();
            due("a row", x.many(6), 1);
            x.close(0);
            x.open(0);
            put(x, 5, 6);
            x.commit();
            due("many " + what, x.many(what), after[what]);
        }
    }

    // ---- promise 30

    static void promise30WithTheRootAloneOrNoTree() {
        CopiedPages x = fresh();
        due("no tree", x.precious(false), NONE);
        due("LOSS", x.precious(true), NONE);
        work(x, "put 1 1 2 2 3 3 4 4");
        due("the root alone", x.precious(false), NONE);
        due("LOSS", x.precious(true), NONE);
        work(x, "put 5 5");
        due("two leaves", x.precious(true), 3);
        due("the first", x.precious(false), x.entry(x.tree(4, 3), 0, true));
    }

    static void promise30OfSeveralTheLeast() {
        CopiedPages x = lastSlipEmpty();
        due("3, 4 and 5 have three KEYS", x.precious(false), 3);
        due("LOSS", x.precious(true), 3);
    }

    static void promise30KeysBeneathCount() {
        CopiedPages x = threeLevels();
        due("a BRANCH", x.precious(false), x.entry(x.tree(4, 3), 0, true));
        due("nine KEYS", x.precious(true), 9);
    }

    static void promise30TheTreeOfTheHeadAlone() {
        CopiedPages x = twoVersions();
        x.open(0);
        put(x, 20, 100, 30, 100);
        x.commit();
        due("leaf 5 with two KEYS", x.precious(false), 5);
        due("not leaf 4 of the READER", x.precious(true), 2);
    }

    static void promise30NothingChanges() {
        CopiedPages x = busy();
        x.precious(false);
        x.precious(true);
        same("asked", x, busy());
    }

    public static void main(String[] args) {
        run(BoundsOfViews.class, 21, 30);
    }
}
