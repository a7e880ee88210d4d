/** Boundary cases of promises 7 to 11: pages, their rows, heads, readers and changes as they are told. */
public final class BoundsOfPages extends Cases {
    /** Page 2 torn by the first write, and nothing else. */
    private static CopiedPages oneTorn() {
        CopiedPages x = fresh();
        put(x, 1, 1);
        x.cut(0);
        return x;
    }

    // ---- promise 7

    static void promise7PagesFrom0To47() {
        CopiedPages x = fresh();
        due("page 0", x.page(0, 0), 4);
        due("page 47", x.page(47, 0), 0);
        refused("page -1", INDEX, y -> y.page(-1, 0));
        refused("page 48", INDEX, y -> y.page(48, 0));
        refused("the least", INDEX, y -> y.page(Integer.MIN_VALUE, 0));
        refused("the greatest", INDEX, y -> y.page(Integer.MAX_VALUE, 0));
    }

    static void promise7WhatFrom0To7() {
        CopiedPages x = busy();
        for (int what = 0; what < 8; what++) {
            due("what " + what + " of a BLANK", x.page(47, what), what == 3 || what == 7 ? NONE : 0);
        }
        refused("what -1", ELEMENT, y -> y.page(0, -1));
        refused("what 8", ELEMENT, y -> y.page(47, 8));
        refused("the least", ELEMENT, y -> y.page(0, Integer.MIN_VALUE));
        refused("the greatest", ELEMENT, y -> y.page(0, Integer.MAX_VALUE));
    }

    static void promise7ThePageIsAskedFirst() {
        refused("both wrong", INDEX, y -> y.page(48, 8));
        refused("both wrong", INDEX, y -> y.page(-1, -1));
    }

    static void promise7Kinds() {
        CopiedPages x = lastSlipEmpty();
        due("BLANK", x.page(15, 0), 0);
        due("LEAF", x.page(3, 0), 1);
        due("BRANCH", x.page(2, 0), 2);
        due("SLIP", x.page(7, 0), 3);
        due("a SLIP of none", x.page(8, 0), 3);
        due("HEAD 0", x.page(0, 0), 4);
        due("HEAD 1", x.page(1, 0), 4);
        due("TORN", oneTorn().page(2, 0), 5);
        due("a HEAD that is TORN", fresh().page(1, 0), 5);
    }

    static void promise7HowManyStandOnIt() {
        CopiedPages x = fresh();
        work(x, "put 1 1");
        due("a LEAF of one", x.page(2, 1), 1);
        CopiedPages y = fresh();
        work(y, "put 1 1 2 2 3 3 4 4");
        due("a LEAF of four", y.page(2, 1), 4);
        CopiedPages z = lastSlipEmpty();
        due("a BRANCH of four", z.page(2, 1), 4);
        due("a SLIP of six", z.page(7, 1), 6);
        due("a SLIP of none", z.page(8, 1), 0);
        due("a HEAD", z.page(1, 1), 0);
        due("a BLANK", z.page(40, 1), 0);
        due("a TORN one", oneTorn().page(2, 1), 0);
    }

    static void promise7TornPagesHaveNothing() {
        CopiedPages x = lastSlipEmpty();
        for (int i = 0; i < 20; i++) {
            put(x, 1, 20 + i);
            for (int k = 0; k < x.would(NONE); k++) {
                if (x.would(k) == 7) {
                    due("a SLIP with a next one", x.page(7, 7), 8);
                    x.cut(k);
                    due("TORN", x.page(7, 0), 5);
                    due("how many", x.page(7, 1), 0);
                    due("next", x.page(7, 7), NONE);
                    due("an entry", x.entry(7, 0, false), NONE);
                    due("more of it", x.entry(7, 0, true), NONE);
                    return;
                }
            }
            x.commit();
        }
        due("page 7 was written again", false, true);
    }

    static void promise7WearOfEachWrite() {
        CopiedPages x = twoVersions();
        x.close(1);
        put(x, 60, 6);
        x.cut(1);
        due("written twice", x.page(2, 2), 2);
        due("a torn write, too", x.page(7, 2), 1);
        due("not made", x.page(8, 2), 0);
        due("nor the head", x.page(1, 2), 1);
    }

    static void promise7FreedByANumber() {
        CopiedPages x = twoVersions();
        due("LEFT by 2", x.page(2, 3), 2);
        due("in the tree", x.page(4, 3), NONE);
        due("a SLIP of the LIST", x.page(6, 3), NONE);
        due("a HEAD", x.page(0, 3), NONE);
        due("a BLANK", x.page(7, 3), NONE);
        x.close(1);
        put(x, 60, 6);
        x.commit();
        due("taken again", x.page(2, 3), NONE);
        due("a SLIP as it was", x.page(6, 3), 3);
    }

    static void promise7TenantsOfAllViews() {
        CopiedPages x = fresh();
        work(x, "put 1 1");
        due("THE HEAD alone", x.page(2, 4), 16);
        for (int reader = 0; reader < 4; reader++) {
            x.open(reader);
        }
        due("all five", x.page(2, 4), 31);
        put(x, 1, 2);
        x.commit();
        due("the READERS", x.page(2, 4), 15);
        due("THE HEAD", x.page(3, 4), 16);
        x.close(0);
        x.close(3);
        due("those that are OPEN", x.page(2, 4), 6);
        x.close(1);
        x.close(2);
        due("none", x.page(2, 4), 0);
        due("a HEAD is no tenant's", x.page(0, 4), 0);
        due("nor a SLIP", x.page(4, 4), 0);
    }

    static void promise7UsableByTheReadersVersion() {
        CopiedPages x = twoVersions();
        due("FREED 2, a READER on 1", x.page(2, 5), 0);
        x.open(0);
        due("one of both on 1", x.page(2, 5), 0);
        x.close(1);
        due("FREED 2, a READER on 2", x.page(2, 5), 1);
        x.close(0);
        due("FREED 2, VERSION 2", x.page(2, 5), 1);
        due("without a row", x.page(4, 5), 0);
        due("a SLIP", x.page(6, 5), 0);
    }

    static void promise7PartIsRoundedDown() {
        CopiedPages x = fresh();
        due("without WEAR", x.page(0, 6), 0);
        due("all WEAR", oneTorn().page(2, 6), 100);
        put(x, 1, 1);
        x.commit();
        due("one of two", x.page(2, 6), 50);
        due("none of two", x.page(0, 6), 0);
        put(x, 1, 2);
        x.commit();
        put(x, 1, 3);
        x.commit();
        due("two of eight", x.page(2, 6), 25);
        due("one of eight", x.page(0, 6), 12);
        CopiedPages y = fresh();
        put(y, 1, 1);
        y.commit();
        put(y, 1, 2);
        y.cut(0);
        due("one of three", y.page(2, 6), 33);
    }

    static void promise7TheNextSlip() {
        CopiedPages x = lastSlipEmpty();
        due("the first", x.page(7, 7), 8);
        due("the last", x.page(8, 7), NONE);
        due("one that was", x.page(13, 7), 14);
        due("a LEAF", x.page(3, 7), NONE);
        due("a BRANCH", x.page(2, 7), NONE);
        due("a HEAD", x.page(1, 7), NONE);
        due("a BLANK", x.page(20, 7), NONE);
        due("a LEAF where a SLIP was", x.page(4, 7), NONE);
    }

    // ---- promise 8

    static void promise8PagesFrom0To47() {
        CopiedPages x = fresh();
        due("page 0", x.entry(0, 0, false), NONE);
        due("page 47", x.entry(47, 0, true), NONE);
        refused("page -1", INDEX, y -> y.entry(-1, 0, false));
        refused("page 48", INDEX, y -> y.entry(48, 0, true));
        refused("page 48, k -1", INDEX, y -> y.entry(48, -1, true));
        refused("the least", INDEX, y -> y.entry(Integer.MIN_VALUE, 0, false));
        refused("the greatest", INDEX, y -> y.entry(Integer.MAX_VALUE, 0, false));
    }

    private static void entries(CopiedPages x, int page, int[] first, int[] more) {
        for (int k = 0; k < first.length; k++) {
            due("page " + page + " entry " + k, x.entry(page, k, false), first[k]);
            due("page " + page + " more " + k, x.entry(page, k, true), more[k]);
        }
        int[] beyond = {-1, first.length, first.length + 1, 6, Integer.MIN_VALUE, Integer.MAX_VALUE};
        for (int k : beyond) {
            due("page " + page + " entry " + k, x.entry(page, k, false), NONE);
            due("page " + page + " more " + k, x.entry(page, k, true), NONE);
        }
    }

    static void promise8ALeafOfFour() {
        CopiedPages x = fresh();
        work(x, "put 99 0 0 99 5 50 7 70");
        entries(x, 2, new int[] {0, 5, 7, 99}, new int[] {99, 50, 70, 0});
    }

    static void promise8ABranchOfFour() {
        entries(lastSlipEmpty(), 2, new int[] {1, 4, 7, 10}, new int[] {3, 4, 5, 6});
    }

    static void promise8ASlipOfSix() {
        entries(lastSlipEmpty(), 7, new int[] {9, 10, 11, 12, 13, 14}, new int[] {6, 6, 6, 7, 7, 7});
    }

    static void promise8ASlipOfNone() {
        entries(lastSlipEmpty(), 8, new int[0], new int[0]);
    }

    static void promise8NoneOfHeadsBlanksAndTorn() {
        CopiedPages x = lastSlipEmpty();
        entries(x, 0, new int[0], new int[0]);
        entries(x, 1, new int[0], new int[0]);
        entries(x, 15, new int[0], new int[0]);
        CopiedPages y = twoVersions();
        y.close(1);
        due("page 2 had rows", y.entry(2, 2, false), 30);
        put(y, 60, 6);
        y.cut(0);
        entries(y, 2, new int[0], new int[0]);
    }

    static void promise8OfPagesWithFewerThanBefore() {
        CopiedPages x = twoVersions();
        x.close(1);
        due("three KEYS", x.entry(2, 2, true), 3);
        put(x, 60, 6);
        x.commit();
        entries(x, 2, new int[] {10, 40}, new int[] {4, 7});
    }

    // ---- promise 9

    static void promise9TwoHeads() {
        CopiedPages x = twoVersions();
        due("head 0", x.head(0, 0), 2);
        due("head 1", x.head(1, 0), 1);
        refused("head -1", INDEX, y -> y.head(-1, 0));
        refused("head 2", INDEX, y -> y.head(2, 0));
        refused("the least", INDEX, y -> y.head(Integer.MIN_VALUE, 0));
        refused("the greatest", INDEX, y -> y.head(Integer.MAX_VALUE, 0));
    }

    static void promise9WhatFrom0To3() {
        CopiedPages x = twoVersions();
        int[][] told = {{2, 3, 6, 7}, {1, 2, NONE, 3}};
        for (int what = 0; what < 4; what++) {
            due("head 0 what " + what, x.head(0, what), told[0][what]);
            due("head 1 what " + what, x.head(1, what), told[1][what]);
        }
        refused("what -1", ELEMENT, y -> y.head(0, -1));
        refused("what 4", ELEMENT, y -> y.head(1, 4));
        refused("what 4 of a TORN one", ELEMENT, Cases::fresh, y -> y.head(1, 4));
        refused("the greatest", ELEMENT, y -> y.head(0, Integer.MAX_VALUE));
        refused("the least", ELEMENT, y -> y.head(0, Integer.MIN_VALUE));
    }

    static void promise9TheHeadIsAskedFirst() {
        refused("both wrong", INDEX, y -> y.head(2, 4));
        refused("both wrong", INDEX, y -> y.head(-1, -1));
    }

    static void promise9NoneOfATornOne() {
        CopiedPages x = twoVersions();
        put(x, 60, 6);
        x.cut(x.would(NONE) - 1);
        for (int what = 0; what < 4; what++) {
            due("head 1 what " + what, x.head(1, what), NONE);
        }
        due("head 0 stays", x.head(0, 0), 2);
        put(x, 60, 6);
        x.commit();
        due("whole again", x.head(1, 0), 3);
    }

    static void promise9NoTreeAndNoList() {
        CopiedPages x = fresh();
        work(x, "put 1 1;drop 1");
        due("NUMBER", x.head(1, 0), 1);
        due("TREE", x.head(1, 1), NONE);
        due("LIST", x.head(1, 2), NONE);
        due("HIGH", x.head(1, 3), 2);
    }

    static void promise9HighIs48() {
        CopiedPages x = usedUp();
        due("HIGH", x.head(x.count(9), 3), 48);
        due("of the other one", x.head(1 - x.count(9), 3), 41);
    }

    // ---- promise 10

    static void promise10ReadersFrom0To3() {
        CopiedPages x = busy();
        int[] versions = {2, 1, NONE, 3};
        for (int reader = 0; reader < 4; reader++) {
            due("reader " + reader, x.reader(reader), versions[reader]);
        }
        refused("reader -1", INDEX, y -> y.reader(-1));
        refused("reader 4", INDEX, y -> y.reader(4));
        refused("the least", INDEX, y -> y.reader(Integer.MIN_VALUE));
        refused("the greatest", INDEX, y -> y.reader(Integer.MAX_VALUE));
    }

    static void promise10OpenOnVersion0() {
        CopiedPages x = fresh();
        due("not OPEN", x.reader(3), NONE);
        x.open(3);
        due("OPEN on 0", x.reader(3), 0);
        x.close(3);
        due("closed", x.reader(3), NONE);
    }

    static void promise10GoneWhenPowerFails() {
        CopiedPages x = busy();
        x.cut(0);
        for (int reader = 0; reader < 4; reader++) {
            due("reader " + reader, x.reader(reader), NONE);
        }
    }

    // ---- promise 11

    static void promise11FromTheFirstToTheTwelfth() {
        CopiedPages x = fresh();
        for (int k = 0; k < 12; k++) {
            due("not told yet", x.change(k, 0), NONE);
            put(x, 99 - k, k == 5 ? 100 : k);
        }
        for (int k = 0; k < 12; k++) {
            due("KEY " + k, x.change(k, 0), 99 - k);
            due("VALUE " + k, x.change(k, 1), k == 5 ? 100 : k);
        }
        int[] beyond = {-1, 12, 13, Integer.MIN_VALUE, Integer.MAX_VALUE};
        for (int k : beyond) {
            due("KEY " + k, x.change(k, 0), NONE);
            due("VALUE " + k, x.change(k, 1), NONE);
        }
    }

    static void promise11BehindTheLast() {
        CopiedPages x = busy();
        due("the last", x.change(1, 1), 100);
        due("behind it", x.change(2, 1), NONE);
        x.forget();
        due("dropped", x.change(0, 0), NONE);
        due("dropped", x.change(0, 1), NONE);
    }

    static void promise11AnotherWhat() {
        refused("what -1", ELEMENT, y -> y.change(0, -1));
        refused("what 2", ELEMENT, y -> y.change(0, 2));
        refused("what 2 without a CHANGE", ELEMENT, Cases::fresh, y -> y.change(0, 2));
        refused("what 2 of none such", ELEMENT, y -> y.change(-1, 2));
        refused("the greatest", ELEMENT, y -> y.change(0, Integer.MAX_VALUE));
        refused("the least", ELEMENT, y -> y.change(0, Integer.MIN_VALUE));
    }

    public static void main(String[] args) {
        run(BoundsOfPages.class, 7, 11);
    }
}
