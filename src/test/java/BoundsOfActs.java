/** Boundary cases of promises 12 to 20: ticks, changes, commits, power, readers and risk. */
public final class BoundsOfActs extends Cases {
    private static CopiedPages nearlyFullWaiting() {
        CopiedPages x = nearlyFull();
        put(x, 1, 50);
        x.seed(99);
        type(x, "put 33 7");
        return x;
    }

    /** No reader; key 60 would be written to pages 2, 7, 8 and head 1. */
    private static CopiedPages fourWrites() {
        CopiedPages x = twoVersions();
        x.close(1);
        x.open(2);
        put(x, 60, 6);
        return x;
    }

    /** A seed whose first two draws remove a key, or put it. */
    private static int seedFor(int key, boolean removes) {
        for (int s = 1; s < 1000000; s++) {
            if (draw(s) % 100 == key && (draw(drawn(s, 1)) % 3 == 2) == removes) {
                return s;
            }
        }
        return 0;
    }

    // ---- promise 12

    static void promise12From1To60() {
        CopiedPages x = fresh();
        due("1", x.ticks(1), 0);
        due("TICK", x.count(6), 1);
        due("60", x.ticks(60), 0);
        due("TICK", x.count(6), 61);
        refused("0", ARGUMENT, y -> y.ticks(0));
        refused("61", ARGUMENT, y -> y.ticks(61));
        refused("-1", ARGUMENT, y -> y.ticks(-1));
        refused("the least", ARGUMENT, y -> y.ticks(Integer.MIN_VALUE));
        refused("the greatest", ARGUMENT, y -> y.ticks(Integer.MAX_VALUE));
    }

    static void promise12TickTo9999() {
        CopiedPages x = fresh();
        work(x, "tick 999");
        for (int i = 0; i < 149; i++) {
            x.ticks(60);
        }
        x.ticks(59);
        due("9998", x.count(6), 9998);
        x.ticks(1);
        due("9999", x.count(6), 9999);
        x.ticks(1);
        due("9999 at most", x.count(6), 9999);
        x.ticks(60);
        due("still", x.count(6), 9999);
        due("of the latest row", x.log(0, 0), 9999);
    }

    static void promise12HowOftenPowerFailed() {
        CopiedPages x = fresh();
        x.risk(100);
        int s = 1;
        int failures = 0;
        for (int i = 0; i < 60; i++) {
            boolean removes = draw(drawn(s, 1)) % 3 == 2;
            failures += removes ? 0 : 1;
            s = drawn(s, removes ? 2 : 4);
        }
        due("each that was put", x.ticks(60), failures);
        due("draws", x.seed(1), s);
        due("rows", x.led(1, false), failures);
        due("VERSION", x.count(0), 0);
        due("TICK", x.count(6), 60);
        due("all on page 2", x.page(2, 2), failures);
    }

    static void promise12NeverAtRisk0() {
        CopiedPages x = fresh();
        due("none", x.ticks(60), 0);
        due("rows", x.led(1, false), 0);
    }

    static void promise12ChangesThatWaitStay() {
        CopiedPages x = fresh();
        put(x, 90, 9, 91, 9);
        x.open(2);
        x.seed(seedFor(5, false));
        x.ticks(1);
        due("it came through", x.count(0), 1);
        due("they wait", x.count(1), 2);
        due("alone", x.tree(4, 0), 1);
        due("the READER stays", x.reader(2), 0);
    }

    static void promise12AllIsGoneIfPowerFails() {
        CopiedPages x = fresh();
        put(x, 90, 9, 91, 9);
        x.open(2);
        x.risk(100);
        x.seed(seedFor(5, false));
        due("it failed", x.ticks(1), 1);
        due("CHANGES", x.count(1), 0);
        due("READERS", x.count(8), 0);
        due("RISK stays", x.count(4), 100);
    }

    static void promise12KeysRemovedByDraws() {
        CopiedPages x = fresh();
        work(x, "put 5 1 6 1");
        int s = seedFor(5, true);
        x.seed(s);
        x.ticks(1);
        due("removed", x.value(4, 5), NONE);
        due("two draws, one for each write", x.seed(s), drawn(s, 2 + x.log(0, 3)));
        x.ticks(1);
        due("no such KEY: no NUMBER", x.count(0), 2);
        due("no row", x.count(10), 2);
        due("no DRAW for writes", x.seed(s), drawn(s, 2));
        due("TICK all the same", x.count(6), 2);
    }

    static void promise12KeysPutByDraws() {
        CopiedPages x = fresh();
        int s = seedFor(5, false);
        x.seed(s);
        x.ticks(1);
        due("VALUE", x.value(4, 5), draw(drawn(s, 2)) % 100);
        due("three draws, two for writes", x.seed(s), drawn(s, 5));
        x.ticks(1);
        due("the same VALUE: no NUMBER", x.count(0), 1);
        due("no DRAW for writes", x.seed(s), drawn(s, 3));
        due("TICK all the same", x.count(6), 2);
    }

    static void promise12FullNothingComesOfIt() {
        CopiedPages x = nearlyFullWaiting();
        int s = seedFor(1, false);
        x.seed(s);
        due("no failure", x.ticks(1), 0);
        due("TICK", x.count(6), 1);
        due("three draws", x.seed(99), drawn(s, 3));
        due("VERSION", x.count(0), 11);
        due("the READER", x.reader(0), 0);
        due("the CHANGE", x.count(1), 1);
        due("rows", x.count(10), 11);
        x.undo();
        x.seed(99);
        same("undone", x, undoneFull());
    }

    private static CopiedPages undoneFull() {
        CopiedPages x = nearlyFullWaiting();
        x.ticks(1);
        x.undo();
        x.seed(99);
        return x;
    }

    static void promise12TheRowsTickIsAheadOfItsEnd() {
        CopiedPages x = fresh();
        law(x, "cost 50 if tick<1");
        x.seed(seedFor(5, false));
        x.ticks(1);
        due("TICK of the row", x.log(0, 0), 0);
        due("COST by it", x.count(5), 102);
    }

    static void promise12OneActOfOneCall() {
        CopiedPages x = fresh();
        x.ticks(60);
        due("one", x.count(11), 1);
        x.undo();
        same("undone", x, fresh());
    }

    // ---- promise 13

    static void promise13KeysFrom0To99() {
        CopiedPages x = fresh();
        due("0", x.put(0, 1), 1);
        due("99", x.put(99, 1), 2);
        refused("-1", INDEX, y -> y.put(-1, 0));
        refused("100", INDEX, y -> y.put(100, 0));
        refused("the least", INDEX, y -> y.put(Integer.MIN_VALUE, 0));
        refused("the greatest", INDEX, y -> y.put(Integer.MAX_VALUE, 0));
    }

    static void promise13ValuesFrom0To100() {
        CopiedPages x = fresh();
        due("0", x.put(1, 0), 1);
        due("99", x.put(2, 99), 2);
        due("100", x.put(2, 100), 3);
        x.commit();
        due("0 is a VALUE", x.value(4, 1), 0);
        due("100 removes", x.value(4, 2), NONE);
        refused("-1", ARGUMENT, y -> y.put(1, -1));
        refused("101", ARGUMENT, y -> y.put(1, 101));
        refused("the least", ARGUMENT, y -> y.put(1, Integer.MIN_VALUE));
        refused("the greatest", ARGUMENT, y -> y.put(1, Integer.MAX_VALUE));
    }

    private static CopiedPages twelveChanges() {
        CopiedPages x = busy();
        for (int i = 2; i < 12; i++) {
            put(x, i, i);
        }
        return x;
    }

    static void promise13TwelveChanges() {
        CopiedPages x = fresh();
        for (int i = 1; i <= 12; i++) {
            due("the same KEY again", x.put(7, i), i);
        }
        due("12", x.count(1), 12);
        refused("a 13th", STATE, BoundsOfActs::twelveChanges, y -> y.put(7, 7));
        refused("a 13th that removes", STATE, BoundsOfActs::twelveChanges, y -> y.put(0, 100));
        x.commit();
        due("room again", x.put(7, 7), 1);
    }

    static void promise13WhatIsAskedFirst() {
        refused("KEY and VALUE", INDEX, y -> y.put(100, 101));
        refused("KEY and a 13th", INDEX, BoundsOfActs::twelveChanges, y -> y.put(-1, 0));
        refused("VALUE and a 13th", ARGUMENT, BoundsOfActs::twelveChanges, y -> y.put(0, 101));
    }

    static void promise13ChangesThatAlterNothingCount() {
        CopiedPages x = twoVersions();
        due("the same VALUE", x.put(10, 1), 1);
        due("no such KEY", x.put(11, 100), 2);
    }

    // ---- promise 14

    static void promise14HowManyThereWere() {
        CopiedPages x = twelveChanges();
        due("twelve", x.forget(), 12);
        due("none is left", x.count(1), 0);
        due("none", x.forget(), 0);
        due("VERSION", x.count(0), 3);
        due("READERS stay", x.count(8), 3);
    }

    static void promise14OfNoneIsAnAct() {
        CopiedPages x = fresh();
        due("none", x.forget(), 0);
        due("an act", x.count(11), 1);
        due("undone", x.undo(), true);
        due("no more", x.undo(), false);
    }

    static void promise14NothingButTheChanges() {
        CopiedPages x = twelveChanges();
        x.forget();
        x.undo();
        samePicture("undone", x, afterUndo());
    }

    private static CopiedPages afterUndo() {
        CopiedPages x = twelveChanges();
        x.risk(35);
        x.undo();
        return x;
    }

    // ---- promise 15: whether there is a commit

    static void promise15NothingAltered() {
        CopiedPages x = twoVersions();
        x.seed(5);
        due("no CHANGE", x.commit(), 0);
        put(x, 10, 1, 11, 100, 20, 2);
        due("the same VALUES, no such KEY", x.commit(), 0);
        due("the CHANGES are gone", x.count(1), 0);
        due("no NUMBER", x.count(0), 2);
        due("no row", x.count(10), 2);
        due("no DRAW", x.seed(1), 5);
        due("no COST", x.count(5), 7);
        due("three told, two committed", x.count(11), 4 + 5);
        due("the READER stays", x.reader(1), 1);
    }

    static void promise15AlteredBack() {
        CopiedPages x = twoVersions();
        put(x, 10, 9, 10, 1);
        due("root, leaf, slip, head", x.commit(), 4);
        due("a NUMBER", x.count(0), 3);
        due("as it was", x.value(4, 10), 1);
        put(x, 11, 9, 11, 100);
        due("root, leaf, two slips, head", x.commit(), 5);
        due("a NUMBER", x.count(0), 4);
    }

    static void promise15WithoutAFailure() {
        CopiedPages x = twoVersions();
        law(x, "risk 99;risk 99");
        x.risk(100);
        x.seed(5);
        put(x, 60, 6);
        due("root, leaf, slip, head", x.commit(), 4);
        due("through", x.count(0), 3);
        due("no DRAW", x.seed(1), 5);
        due("written to the end", x.log(0, 2), 0);
        due("the READER stays", x.reader(1), 1);
    }

    static void promise15TheHeadAlone() {
        CopiedPages x = fresh();
        put(x, 1, 1, 2, 2, 3, 3, 4, 4, 5, 5, 1, 100, 2, 100, 3, 100, 4, 100, 5, 100);
        due("NEW nodes that went take nothing", x.commit(), 1);
        due("HIGH", x.count(7), 2);
        due("VERSION", x.count(0), 1);
        due("no TREE", x.head(1, 1), NONE);
        due("no LIST", x.head(1, 2), NONE);
    }

    static void promise15TwelveChanges() {
        CopiedPages x = fresh();
        put(x, 1, 1, 2, 1, 3, 1, 4, 1, 5, 1, 6, 1, 7, 1, 8, 1, 9, 1, 10, 1, 11, 1, 12, 1);
        due("root, four leaves, head", x.commit(), 6);
        due("all", x.tree(4, 0), 12);
    }

    static void promise15InTheirOrder() {
        CopiedPages x = fresh();
        put(x, 1, 1, 1, 100, 1, 2, 2, 2, 2, 100);
        x.commit();
        due("put last", x.value(4, 1), 2);
        due("removed last", x.value(4, 2), NONE);
    }

    // ---- promise 15: the tree

    static void promise15ALeafOfFiveIsSplit() {
        CopiedPages x = fresh();
        put(x, 1, 1, 2, 2, 3, 3, 4, 4);
        due("four have room", x.commit(), 2);
        due("DEPTH", x.tree(4, 1), 1);
        put(x, 0, 0);
        x.commit();
        due("DEPTH", x.tree(4, 1), 2);
        due("SIZE", x.tree(4, 2), 3);
        int root = x.tree(4, 3);
        due("the first three stay", x.page(x.entry(root, 0, true), 1), 3);
        due("the last two are new", x.page(x.entry(root, 1, true), 1), 2);
        due("LEAST", x.entry(root, 0, false), 0);
        due("LEAST", x.entry(root, 1, false), 3);
    }

    static void promise15AFullLeafWithTheSameKeyIsNotSplit() {
        CopiedPages x = fresh();
        work(x, "put 1 1 2 2 3 3 4 4");
        put(x, 3, 9);
        due("leaf, slip, head", x.commit(), 3);
        due("DEPTH", x.tree(4, 1), 1);
        due("four", x.tree(4, 0), 4);
    }

    static void promise15ABranchOfFiveIsSplit() {
        CopiedPages x = fresh();
        work(x, "put 1 1 2 1 3 1 4 1 5 1 6 1 7 1 8 1 9 1 10 1 11 1");
        work(x, "put 12 1 13 1");
        due("a root of four", x.page(x.tree(4, 3), 1), 4);
        due("DEPTH", x.tree(4, 1), 2);
        work(x, "put 14 1");
        int root = x.tree(4, 3);
        due("DEPTH", x.tree(4, 1), 3);
        due("SIZE", x.tree(4, 2), 8);
        due("a root of both", x.page(root, 1), 2);
        due("three stay", x.page(x.entry(root, 0, true), 1), 3);
        due("two are new", x.page(x.entry(root, 1, true), 1), 2);
        due("LEAST", x.entry(root, 0, false), 1);
        due("LEAST", x.entry(root, 1, false), 10);
        due("LEAST beneath", x.entry(x.entry(root, 1, true), 1, false), 13);
    }

    static void promise15ANewLeafComesNextBehind() {
        CopiedPages x = fresh();
        work(x, "put 10 1 20 1 30 1 40 1 50 1");
        work(x, "put 11 1 12 1");
        int root = x.tree(4, 3);
        due("three leaves", x.page(root, 1), 3);
        due("LEAST", x.entry(root, 0, false), 10);
        due("LEAST", x.entry(root, 1, false), 20);
        due("LEAST", x.entry(root, 2, false), 40);
    }

    static void promise15AKeyBelowAllGoesToTheFirst() {
        CopiedPages x = fresh();
        work(x, "put 1 1 2 1 3 1 4 1 5 1 6 1 7 1 8 1 9 1 10 1 11 1");
        work(x, "put 12 1 13 1 14 1");
        work(x, "put 0 5");
        int root = x.tree(4, 3);
        due("LEAST of the root's first", x.entry(root, 0, false), 0);
        due("and beneath it", x.entry(x.entry(root, 0, true), 0, false), 0);
        due("its leaf has four", x.page(x.entry(x.entry(root, 0, true), 0, true), 1), 4);
        due("the second stays", x.entry(root, 1, false), 10);
    }

    static void promise15AKeyOfLeastGoesThere() {
        CopiedPages x = fresh();
        work(x, "put 10 1 20 1 30 1 40 1 50 1");
        work(x, "put 39 1");
        due("39 is ahead of 40", x.page(x.entry(x.tree(4, 3), 0, true), 1), 4);
        work(x, "put 40 2");
        due("40 is there", x.value(4, 40), 2);
        due("two leaves", x.page(x.tree(4, 3), 1), 2);
        work(x, "put 41 2");
        due("41 is behind it", x.page(x.entry(x.tree(4, 3), 1, true), 1), 3);
    }

    static void promise15LeastRisesWithARemoval() {
        CopiedPages x = fresh();
        work(x, "put 10 1 20 1 30 1 40 1 50 1");
        work(x, "drop 40");
        due("LEAST", x.entry(x.tree(4, 3), 1, false), 50);
        work(x, "drop 10");
        due("LEAST", x.entry(x.tree(4, 3), 0, false), 20);
    }

    static void promise15AnEmptyLeafGoes() {
        CopiedPages x = fresh();
        work(x, "put 1 1 2 1 3 1 4 1 5 1 6 1 7 1 8 1");
        due("three leaves", x.page(x.tree(4, 3), 1), 3);
        work(x, "drop 4 5");
        due("one KEY stays", x.page(x.tree(4, 3), 1), 3);
        int leaf = x.entry(x.tree(4, 3), 1, true);
        work(x, "drop 6");
        due("none: it goes", x.page(x.tree(4, 3), 1), 2);
        due("its PAGE is LEFT", x.page(leaf, 3), x.count(0));
        due("LEAST of the next", x.entry(x.tree(4, 3), 1, false), 7);
    }

    static void promise15ARootOfOneChildGoes() {
        CopiedPages x = twoVersions();
        put(x, 40, 100, 50, 100);
        due("a slip and the head", x.commit(), 2);
        due("the leaf is the root, and not NEW", x.tree(4, 3), 4);
        due("it was not written", x.page(4, 2), 1);
        due("the root is LEFT", x.page(3, 3), 3);
        due("the leaf is LEFT", x.page(5, 3), 3);
        due("the SLIP is", x.page(6, 3), 3);
        due("ahead of it", x.page(2, 3), 2);
        due("rows", x.many(6), 4);
        due("LOST", x.many(8), 0);
    }

    static void promise15RootsOfOneChildGoOneByOne() {
        CopiedPages x = fresh();
        work(x, "put 1 1 2 1 3 1 4 1 5 1 6 1 7 1 8 1 9 1 10 1 11 1");
        work(x, "put 12 1 13 1 14 1");
        work(x, "drop 4 5 6 7 8 9");
        int root = x.tree(4, 3);
        int low = x.entry(root, 0, true);
        int leaf = x.entry(low, 0, true);
        due("a BRANCH of one that is no root stays", x.page(low, 1), 1);
        due("DEPTH", x.tree(4, 1), 3);
        work(x, "drop 10 11 12 13 14");
        due("down to the leaf", x.tree(4, 3), leaf);
        due("DEPTH", x.tree(4, 1), 1);
        due("the root is LEFT", x.page(root, 3), x.count(0));
        due("its child that is not NEW, too", x.page(low, 3), x.count(0));
        due("LOST", x.many(8), 0);
    }

    static void promise15TheLastKeyGoes() {
        CopiedPages x = fresh();
        work(x, "put 1 1 2 2");
        put(x, 1, 100);
        x.commit();
        due("one stays", x.tree(4, 0), 1);
        put(x, 2, 100);
        due("slip and head", x.commit(), 2);
        due("no TREE", x.tree(4, 3), NONE);
        put(x, 3, 3);
        x.commit();
        due("a new root", x.value(4, 3), 3);
    }

    // ---- promise 15: pages

    static void promise15PagesAreTakenInOrder() {
        CopiedPages x = lastSlipEmpty();
        due("the root first", x.tree(4, 3), 2);
        for (int k = 0; k < 4; k++) {
            due("leaf " + k, x.entry(2, k, true), 3 + k);
        }
        due("SLIPS behind", x.head(1, 2), 7);
    }

    static void promise15TheLeastUsableFirst() {
        CopiedPages x = versionsKept(3);
        due("leaf 5, slip 6", x.many(6), 3);
        x.close(0);
        put(x, 1, 50);
        due("leaf, slip, head", x.would(NONE), 3);
        due("2", x.would(0), 2);
        due("3", x.would(1), 3);
        x.commit();
        due("HIGH stays", x.count(7), 7);
        due("the leaf took the least", x.tree(4, 3), 2);
        due("the rest has rows", x.many(6), 3);
    }

    static void promise15HighWhereNoneIsUsable() {
        CopiedPages x = versionsKept(3);
        put(x, 1, 50);
        due("7", x.would(0), 7);
        due("8", x.would(1), 8);
        x.commit();
        due("HIGH", x.count(7), 9);
    }

    static void promise15UsableByTheReadersVersion() {
        CopiedPages x = twoVersions();
        put(x, 60, 6);
        due("FREED 2, a READER on 1", x.would(0), 7);
        x.open(0);
        x.close(1);
        due("FREED 2, a READER on 2", x.would(0), 2);
        x.commit();
        due("the READER sees what it saw", x.sum(0, 0, 99), 15);
        due("THE HEAD more", x.sum(4, 0, 99), 21);
    }

    static void promise15PagesFreedByItAreNotTakenByIt() {
        CopiedPages x = fresh();
        work(x, "put 1 1");
        put(x, 1, 2);
        x.commit();
        due("the leaf", x.tree(4, 3), 3);
        due("the slip", x.head(0, 2), 4);
        due("its row", x.entry(4, 0, false), 2);
        due("FREED", x.entry(4, 0, true), 2);
    }

    static void promise15EachPageIsLeftOnce() {
        CopiedPages x = fresh();
        work(x, "put 1 1");
        put(x, 1, 2, 1, 3, 2, 2, 1, 100);
        x.commit();
        due("one row", x.many(6), 1);
        due("on the slip", x.page(4, 1), 1);
    }

    static void promise15NoListWithoutRows() {
        CopiedPages x = fresh();
        put(x, 1, 1);
        due("leaf and head", x.commit(), 2);
        due("no LIST", x.head(1, 2), NONE);
        put(x, 2, 2);
        due("leaf, slip, head", x.commit(), 3);
        due("the LIST", x.head(0, 2), 4);
    }

    /** Version 2 with root 5, leaves 6 and 4, slip 7 of two rows; reader 0 keeps all. */
    private static CopiedPages keptTree() {
        CopiedPages x = fresh();
        x.open(0);
        put(x, 1, 1, 2, 1, 3, 1, 4, 1, 5, 1);
        x.commit();
        put(x, 1, 2);
        x.commit();
        return x;
    }

    static void promise15SixRowsHaveRoomInOneSlip() {
        CopiedPages x = keptTree();
        put(x, 1, 3, 5, 3);
        due("root, two leaves, slip, head", x.commit(), 5);
        due("six rows", x.many(6), 6);
        due("on one SLIP", x.page(11, 1), 6);
        due("the LIST", x.head(1, 2), 11);
        due("no next", x.page(11, 7), NONE);
        for (int k = 0; k < 6; k++) {
            due("rising", x.entry(11, k, false), 2 + k);
        }
    }

    static void promise15SevenRowsNeedTwo() {
        CopiedPages x = versionsKept(4);
        due("five rows", x.many(6), 5);
        put(x, 1, 50);
        due("leaf, two slips, head", x.commit(), 4);
        due("seven rows", x.many(6), 7);
        due("the LIST", x.head(1, 2), 10);
        due("the first is full", x.page(10, 1), 6);
        due("next", x.page(10, 7), 11);
        due("the last", x.page(11, 1), 1);
        due("the last row", x.entry(11, 0, false), 8);
        due("no next", x.page(11, 7), NONE);
    }

    static void promise15ASlipUsesARowUp() {
        CopiedPages x = versionsKept(4);
        x.close(0);
        put(x, 1, 100);
        due("seven rows, one is taken", x.would(NONE), 2);
        x.commit();
        due("six rows", x.many(6), 6);
        due("on page 2", x.page(2, 1), 6);
        due("the LIST", x.head(1, 2), 2);
        due("LOST", x.many(8), 0);
    }

    static void promise15TheLastSlipMayHaveNone() {
        CopiedPages x = lastSlipEmpty();
        due("six rows", x.many(6), 6);
        due("the first is full", x.page(7, 1), 6);
        due("next", x.page(7, 7), 8);
        due("the last has none", x.page(8, 1), 0);
        due("writes", x.log(0, 3), 8);
        due("HIGH", x.count(7), 15);
        due("LOST", x.many(8), 0);
        put(x, 1, 99);
        x.commit();
        due("both SLIPS are FREED", x.page(7, 3) + x.page(8, 3), 16);
        due("LOST", x.many(8), 0);
    }

    static void promise15WrittenRisingAndTheHeadLast() {
        CopiedPages x = lastSlipEmpty();
        put(x, 1, 99, 11, 99);
        int writes = x.would(NONE);
        for (int k = 1; k < writes - 1; k++) {
            due("rising", x.would(k) > x.would(k - 1), true);
        }
        due("the head", x.would(writes - 1), 0);
        due("how many", x.commit(), writes);
    }

    static void promise15TheHeadsByTurns() {
        CopiedPages x = fresh();
        for (int i = 1; i <= 4; i++) {
            put(x, 1, i);
            due("the other one", x.would(x.would(NONE) - 1), i % 2);
            x.commit();
            due("THE HEAD", x.count(9), i % 2);
            due("NUMBER", x.head(i % 2, 0), i);
        }
    }

    static void promise15Full() {
        refused("eight pages of seven", STATE, BoundsOfActs::nearlyFullWaiting, y -> y.commit());
        CopiedPages x = nearlyFull();
        put(x, 1, 100);
        due("seven pages of seven", x.commit(), 8);
        due("HIGH", x.count(7), 48);
        due("page 47 is the last SLIP", x.page(47, 0), 3);
    }

    private static CopiedPages usedUpWaiting() {
        CopiedPages x = usedUp();
        put(x, 5, 5);
        return x;
    }

    static void promise15FullAtTheFirstNode() {
        refused("a leaf", STATE, BoundsOfActs::usedUpWaiting, y -> y.commit());
    }

    private static CopiedPages usedUpAlteredBack() {
        CopiedPages x = usedUp();
        put(x, 5, 5, 5, 100);
        return x;
    }

    static void promise15FullAtASlip() {
        refused("no node, but slips", STATE, BoundsOfActs::usedUpAlteredBack, y -> y.commit());
        CopiedPages x = usedUp();
        put(x, 5, 100);
        due("nothing altered is not FULL", x.commit(), 0);
    }

    static void promise15RoomAgainWithoutTheReader() {
        CopiedPages x = usedUpWaiting();
        x.close(0);
        due("it comes through", x.commit() > 0, true);
        due("HIGH stays", x.count(7), 48);
        due("LOST", x.many(8), 0);
    }

    // ---- promise 15: bounds of what is counted

    /** 84 writes of 1189 and 122 of 1: 99998, then 99999. */
    static void promise15CostTo99999() {
        CopiedPages x = fresh();
        law(x, lines("cost 99", 12));
        put(x, 1, 1, 1, 100);
        x.commit();
        due("one write", x.count(5), 1189);
        put(x, 1, 1);
        x.commit();
        for (int i = 0; i < 27; i++) {
            put(x, 1, 2 + i);
            x.commit();
        }
        due("84 writes", x.count(5), 84 * 1189);
        law(x, "");
        for (int i = 0; i < 40; i++) {
            put(x, 1, 40 + i);
            x.commit();
        }
        due("120 more", x.count(5), 99996);
        put(x, 1, 0);
        x.cut(2);
        due("two more, the torn one not", x.count(5), 99998);
        put(x, 1, 0);
        x.cut(1);
        due("one more", x.count(5), 99999);
        put(x, 1, 0);
        x.commit();
        due("no more", x.count(5), 99999);
        due("but the commit", x.value(4, 1), 0);
    }

    static void promise15CostPassesItsBoundAtOnce() {
        CopiedPages x = fresh();
        law(x, lines("cost 99", 12));
        for (int i = 0; i < 29; i++) {
            put(x, 1, i);
            x.commit();
        }
        due("86 writes", x.count(5), 99999);
    }

    /** The ticks are as many as bring head 0 close to its bound; torn writes of it take the last steps. */
    static void promise15WearTo9999() {
        CopiedPages x = fresh();
        for (int i = 0; i < 414; i++) {
            x.ticks(60);
        }
        due("close to it", x.page(0, 2) > 9950 && x.page(0, 2) < 9998, true);
        due("NUMBER has no such bound", x.count(0) > 19900, true);
        for (int i = 0; x.page(0, 2) < 9998 && i < 60; i++) {
            x.ticks(1);
        }
        due("9998", x.page(0, 2), 9998);
        due("THE HEAD", x.count(9), 0);
        tearHead(x, false);
        tearHead(x, true);
        due("a torn write, too", x.page(0, 2), 9999);
        tearHead(x, true);
        due("no more", x.page(0, 2), 9999);
        tearHead(x, false);
        due("nor by a whole one", x.page(0, 2), 9999);
        due("which was made", x.count(9), 0);
    }

    /** The least key is removed, and the head is torn, or not. */
    private static void tearHead(CopiedPages x, boolean torn) {
        put(x, x.rank(4, 0), 100);
        due("torn", x.cut(torn ? x.would(NONE) - 1 : 99), torn);
    }

    // ---- promise 16

    static void promise16PowerFrom0To99() {
        due("0", fourWrites().cut(0), true);
        due("99", fourWrites().cut(99), false);
        refused("-1", ARGUMENT, y -> y.cut(-1));
        refused("100", ARGUMENT, y -> y.cut(100));
        refused("the least", ARGUMENT, y -> y.cut(Integer.MIN_VALUE));
        refused("the greatest", ARGUMENT, y -> y.cut(Integer.MAX_VALUE));
    }

    /** Pages 2, 7, 8 and head 1, as they are after so many writes. */
    private static void cutAt(int n, int page2, int page7, int page8, int head1) {
        CopiedPages x = fourWrites();
        due("four", x.would(NONE), 4);
        due("power for " + n, x.cut(n), n < 4);
        due("page 2", x.page(2, 0), page2);
        due("page 7", x.page(7, 0), page7);
        due("page 8", x.page(8, 0), page8);
        due("head 1", x.page(1, 0), head1);
        due("WEAR of 2", x.page(2, 2), 2);
        due("WEAR of 7", x.page(7, 2), n < 1 ? 0 : 1);
        due("WEAR of 8", x.page(8, 2), n < 2 ? 0 : 1);
        due("WEAR of head 1", x.page(1, 2), n < 3 ? 1 : 2);
        due("VERSION", x.count(0), n < 4 ? 2 : 3);
        due("COST", x.count(5), 7 + Math.min(n, 4));
        due("the row's NUMBER", x.log(0, 1), 3);
        due("the row's kind", x.log(0, 2), n < 4 ? 1 : 0);
        due("the row's writes", x.log(0, 3), Math.min(n, 4));
        due("READERS", x.count(8), n < 4 ? 0 : 1);
        due("CHANGES", x.count(1), 0);
        due("key 60", x.value(4, 60), n < 4 ? NONE : 6);
        due("HIGH", x.count(7), n < 4 ? 7 : 9);
    }

    static void promise16TheFirstIsTorn() {
        cutAt(0, 5, 0, 0, 4);
    }

    static void promise16TheSecondIsTorn() {
        cutAt(1, 2, 5, 0, 4);
    }

    static void promise16TheThirdIsTorn() {
        cutAt(2, 2, 1, 5, 4);
    }

    static void promise16TheHeadIsTorn() {
        cutAt(3, 2, 1, 3, 5);
    }

    static void promise16PowerForAll() {
        cutAt(4, 2, 1, 3, 4);
    }

    static void promise16PowerForOneMore() {
        cutAt(5, 2, 1, 3, 4);
    }

    static void promise16NothingOfTheReadersStays() {
        CopiedPages x = busy();
        due("pages that READERS keep", x.many(9), 3);
        x.cut(2);
        due("PINNED", x.many(9), 0);
        due("a TENANT of page 2", x.page(2, 4), 0);
        due("of page 4", x.page(4, 4), 16);
        due("shares are alike", x.share(0, 9), 9);
        due("WAITS", x.many(7), 0);
        due("OLDEST", x.most(2), NONE);
    }

    static void promise16NothingToCut() {
        CopiedPages x = twoVersions();
        due("no CHANGE", x.cut(0), false);
        put(x, 10, 1);
        due("nothing altered", x.cut(0), false);
        due("the CHANGE is gone", x.count(1), 0);
        due("the READER stays", x.reader(1), 1);
        due("no row", x.count(10), 2);
        due("one told, two cut", x.count(11), 4 + 3);
    }

    static void promise16Full() {
        refused("FULL", STATE, BoundsOfActs::nearlyFullWaiting, y -> y.cut(0));
        refused("FULL with power", STATE, BoundsOfActs::nearlyFullWaiting, y -> y.cut(99));
        refused("both wrong", ARGUMENT, BoundsOfActs::nearlyFullWaiting, y -> y.cut(100));
        refused("both wrong", ARGUMENT, BoundsOfActs::nearlyFullWaiting, y -> y.cut(-1));
    }

    static void promise16NoDrawIsMade() {
        CopiedPages x = fourWrites();
        x.risk(100);
        x.seed(5);
        due("power for all", x.cut(4), false);
        due("SEED", x.seed(1), 5);
    }

    static void promise16TheHeadIsSoughtAnew() {
        CopiedPages x = fresh();
        put(x, 1, 1);
        x.cut(1);
        due("head 1 torn", x.count(9), 0);
        due("VERSION", x.count(0), 0);
        put(x, 1, 1);
        x.commit();
        due("head 1", x.count(9), 1);
        put(x, 1, 2);
        x.cut(x.would(NONE) - 1);
        due("head 0 torn", x.count(9), 1);
        due("it tells none", x.head(0, 0), NONE);
        due("VERSION", x.count(0), 1);
        due("VALUE", x.value(4, 1), 1);
    }

    // ---- promise 17

    private static CopiedPages storing(int seed, int risk) {
        CopiedPages x = fresh();
        x.open(3);
        x.risk(risk);
        put(x, 1, 1);
        x.seed(seed);
        return x;
    }

    /** Draws modulo 100 from SEED 1: 38, 58, 13, 15, 51, 27, 10, 19, 12, 86. */
    static void promise17BelowItsRisks() {
        int[] draws = {38, 58, 13, 15, 51, 27, 10, 19, 12, 86};
        for (int i = 0; i + 1 < draws.length; i++) {
            int s = drawn(1, i);
            due("the draw", draw(s) % 100, draws[i]);
            due("below", storing(s, draws[i] + 1).store(), true);
            CopiedPages x = storing(s, draws[i]);
            due("not below", x.store(), draws[i + 1] < draws[i]);
            due("made", x.log(0, 3), draws[i + 1] < draws[i] ? 1 : 2);
        }
    }

    static void promise17AtRisk0And100() {
        for (int s = 0; s < 200; s++) {
            CopiedPages x = storing(s, 0);
            due("never", x.store(), false);
            due("a DRAW for each write", x.seed(1), drawn(s, 2));
            CopiedPages y = storing(s, 100);
            due("always", y.store(), true);
            due("a DRAW for the torn one alone", y.seed(1), drawn(s, 1));
        }
    }

    static void promise17PowerFails() {
        CopiedPages x = storing(1, 100);
        x.store();
        due("page 2 is torn", x.page(2, 0), 5);
        due("head 1 was not written", x.page(1, 2), 0);
        due("READERS", x.count(8), 0);
        due("CHANGES", x.count(1), 0);
        due("VERSION", x.count(0), 0);
        due("COST", x.count(5), 0);
        due("the row", x.log(0, 1), 1);
        due("cut off", x.log(0, 2), 1);
    }

    static void promise17AtTheHeadAlone() {
        CopiedPages x = storing(1, 0);
        law(x, "risk 99 if head;risk 1 if head");
        due("it fails", x.store(), true);
        due("the leaf is written", x.page(2, 0), 1);
        due("the head is torn", x.page(1, 0), 5);
        due("two draws", x.seed(1), drawn(1, 2));
        due("one write", x.log(0, 3), 1);
    }

    static void promise17NothingToStore() {
        CopiedPages x = twoVersions();
        x.risk(100);
        x.seed(5);
        due("no CHANGE", x.store(), false);
        put(x, 10, 1);
        due("nothing altered", x.store(), false);
        due("no DRAW", x.seed(1), 5);
        due("the CHANGE is gone", x.count(1), 0);
        due("the READER stays", x.reader(1), 1);
        due("no row", x.count(10), 2);
    }

    static void promise17Full() {
        refused("FULL", STATE, BoundsOfActs::nearlyFullWaiting, y -> y.store());
    }

    // ---- promise 18

    static void promise18ReadersFrom0To3() {
        CopiedPages x = twoVersions();
        due("0", x.open(0), 2);
        due("3", x.open(3), 2);
        refused("-1", INDEX, y -> y.open(-1));
        refused("4", INDEX, y -> y.open(4));
        refused("the least", INDEX, y -> y.open(Integer.MIN_VALUE));
        refused("the greatest", INDEX, y -> y.open(Integer.MAX_VALUE));
    }

    static void promise18ItIsOpen() {
        refused("on this VERSION", STATE, y -> y.open(3));
        refused("on another one", STATE, y -> y.open(1));
        CopiedPages x = fresh();
        due("VERSION 0", x.open(0), 0);
        refused("OPEN on VERSION 0", STATE, BoundsOfActs::openOnNothing, y -> y.open(0));
    }

    private static CopiedPages openOnNothing() {
        CopiedPages x = fresh();
        x.open(0);
        return x;
    }

    static void promise18AllFour() {
        CopiedPages x = fresh();
        for (int reader = 0; reader < 4; reader++) {
            x.open(reader);
            due("OPEN", x.count(8), reader + 1);
        }
    }

    static void promise18WithoutATree() {
        CopiedPages x = openOnNothing();
        work(x, "put 1 1");
        due("it sees none", x.tree(0, 3), NONE);
        due("no KEY", x.tree(0, 0), 0);
        due("it is OPEN", x.value(0, 1), NONE);
    }

    static void promise18ChangesThatWaitAreNotSeen() {
        CopiedPages x = busy();
        x.open(2);
        due("not yet", x.value(2, 70), NONE);
        due("they wait", x.count(1), 2);
    }

    // ---- promise 19

    static void promise19ReadersFrom0To3() {
        CopiedPages x = busy();
        due("0", x.close(0), 2);
        due("3", x.close(3), 3);
        due("1", x.close(1), 1);
        refused("-1", INDEX, y -> y.close(-1));
        refused("4", INDEX, y -> y.close(4));
        refused("the least", INDEX, y -> y.close(Integer.MIN_VALUE));
        refused("the greatest", INDEX, y -> y.close(Integer.MAX_VALUE));
    }

    static void promise19ItIsNotOpen() {
        refused("never opened", STATE, y -> y.close(2));
        CopiedPages x = openOnNothing();
        due("VERSION 0", x.close(0), 0);
        dueRefused("closed", STATE, x, y -> y.close(0));
        due("acts", x.count(11), 2);
    }

    static void promise19OpenedAgain() {
        CopiedPages x = busy();
        x.close(1);
        due("on VERSION", x.open(1), 3);
    }

    // ---- promise 20

    static void promise20From0To100() {
        CopiedPages x = fresh();
        due("100", x.risk(100), 0);
        due("0", x.risk(0), 100);
        due("0 again", x.risk(0), 0);
        due("three acts", x.count(11), 3);
        refused("-1", ARGUMENT, y -> y.risk(-1));
        refused("101", ARGUMENT, y -> y.risk(101));
        refused("the least", ARGUMENT, y -> y.risk(Integer.MIN_VALUE));
        refused("the greatest", ARGUMENT, y -> y.risk(Integer.MAX_VALUE));
    }

    static void promise20NothingElse() {
        CopiedPages x = busy();
        due("what it was", x.risk(35), 35);
        x.undo();
        samePicture("undone", x, afterRisk());
    }

    private static CopiedPages afterRisk() {
        CopiedPages x = busy();
        x.forget();
        x.undo();
        return x;
    }

    public static void main(String[] args) {
        run(BoundsOfActs.class, 12, 20);
    }
}
