/** Boundary cases of promises 31 to 37: what was seen, pairs, shares, choices and what is the most. */
public final class BoundsOfSights extends Cases {
    private static int seen(CopiedPages x, int... rows) {
        type(x, rows);
        return x.seen();
    }

    private static int likely(CopiedPages x, int... rows) {
        type(x, rows);
        return x.likely();
    }

    private static int look(CopiedPages x, int... rows) {
        type(x, rows);
        return x.look();
    }

    /** As many rows of keys that no view of busy() has; of some the value is told wrong. */
    private static int[] rows(int n, int wrong) {
        int[] rows = new int[2 * n];
        for (int i = 0; i < n; i++) {
            rows[2 * i] = 99 - i;
            rows[2 * i + 1] = i < n - wrong ? 100 : 0;
        }
        return rows;
    }

    private static int[] with(int[] rows, int at, int b) {
        rows[at] = b;
        return rows;
    }

    private static void refusedRows(String what, Call call) {
        refusedTape(what + " one byte", ARGUMENT, Cases::busy, call, NONE, 1);
        refusedTape(what + " 39 bytes", ARGUMENT, Cases::busy, call, NONE, new int[39]);
        refusedTape(what + " 41 bytes", ARGUMENT, Cases::busy, call, NONE, new int[41]);
        refusedTape(what + " 42 bytes", ARGUMENT, Cases::busy, call, NONE, new int[42]);
        refusedTape(what + " 400 bytes", ARGUMENT, Cases::busy, call, NONE, new int[400]);
        refusedTape(what + " KEY 100", ARGUMENT, Cases::busy, call, NONE, 100, 0);
        refusedTape(what + " KEY 128", ARGUMENT, Cases::busy, call, NONE, 128, 0);
        refusedTape(what + " KEY 255", ARGUMENT, Cases::busy, call, NONE, 255, 0);
        refusedTape(what + " VALUE 101", ARGUMENT, Cases::busy, call, NONE, 0, 101);
        refusedTape(what + " VALUE 128", ARGUMENT, Cases::busy, call, NONE, 0, 128);
        refusedTape(what + " VALUE 255", ARGUMENT, Cases::busy, call, NONE, 0, 255);
        refusedTape(what + " the last KEY", ARGUMENT, Cases::busy, call, NONE, with(rows(20, 0), 38, 100));
        refusedTape(what + " the last VALUE", ARGUMENT, Cases::busy, call, NONE, with(rows(20, 0), 39, 101));
        refusedTape(what + " an odd byte behind rows", ARGUMENT, Cases::busy, call, NONE, 1, 1, 1);
    }

    // ---- promise 31

    static void promise31TheTapeIsNotThat() {
        refusedRows("seen", y -> y.seen());
    }

    static void promise31NoneMayBeTold() {
        due("all VIEWS that are", seen(busy()), 1 + 2 + 8 + 16);
        due("THE HEAD alone", seen(fresh()), 16);
    }

    static void promise31FortyBytes() {
        due("20 rows", seen(busy(), rows(20, 0)), 27);
        due("the 20th is wrong", seen(busy(), rows(20, 1)), 27);
        due("two are wrong", seen(busy(), rows(20, 2)), 0);
        due("38 bytes", seen(busy(), rows(19, 1)), 27);
    }

    static void promise31OneMayBeWrong() {
        due("none", seen(busy(), 10, 1, 20, 2), 27);
        due("one", seen(busy(), 10, 1, 20, 3), 27);
        due("two", seen(busy(), 10, 2, 20, 3), 0);
        due("one that is the only one", seen(busy(), 10, 2), 27);
        due("two of reader 1 alone", seen(busy(), 40, 4, 50, 5), 25);
        due("two of all but it", seen(busy(), 40, 100, 50, 100), 2);
    }

    static void promise31ItHasNone() {
        CopiedPages x = fresh();
        work(x, "put 5 0");
        due("0 is there", seen(x, 5, 0, 5, 0), 16);
        due("100: it has none", seen(x, 5, 100, 5, 100), 0);
        due("none where none is", seen(x, 6, 100, 7, 100), 16);
        due("0 where none is", seen(x, 6, 0, 7, 0), 0);
    }

    static void promise31KeysAndValuesToTheirBounds() {
        CopiedPages x = fresh();
        work(x, "put 0 99 99 99");
        due("0 and 99", seen(x, 0, 99, 99, 99), 16);
        due("both wrong", seen(x, 0, 100, 99, 98), 0);
    }

    static void promise31ReadersThatAreNotOpen() {
        CopiedPages x = fresh();
        for (int reader = 0; reader < 4; reader++) {
            x.open(reader);
        }
        due("all five", seen(x), 31);
        x.close(0);
        x.close(3);
        due("three", seen(x), 22);
    }

    static void promise31UsesTheTapeUpAndNothingElse() {
        CopiedPages x = busy();
        seen(x, 10, 1);
        due("used up", x.end(1), false);
        CopiedPages other = busy();
        other.end(0);
        same("seen", x, other);
    }

    static void promise31OnlyTheBytesThatAreThere() {
        CopiedPages x = twoVersions();
        x.feed(0x2804ffff, -1, -1, -1, -1);
        x.end(2);
        due("255 behind the end", x.seen(), 18);
        x.feed(0x28043205, 0x0a630a63, -1, -1, -1);
        x.end(4);
        due("rows behind the end", x.seen(), 16);
        x.feed(0x28043205, -1, -1, -1, -1);
        x.end(4);
        due("255 behind two rows", x.seen(), 16);
        x.feed(-1, -1, -1, -1, -1);
        x.end(0);
        due("none", x.seen(), 18);
    }

    // ---- promise 32

    static void promise32TheTapeIsNotThat() {
        refusedRows("likely", y -> y.likely());
    }

    static void promise32OfSeveralTheLeast() {
        due("no row", likely(busy()), 0);
        due("one wrong in each", likely(busy(), 10, 9), 0);
        due("of 3 and 4", likely(busy(), 60, 6), 3);
        due("THE HEAD alone", likely(fresh()), 4);
    }

    static void promise32TheFewestWrongRows() {
        due("reader 1 has none wrong", likely(busy(), 40, 100), 1);
        due("reader 0", likely(busy(), 40, 4, 60, 100), 0);
        due("one wrong where two have none", likely(busy(), 60, 6, 40, 4), 3);
    }

    static void promise32None() {
        due("two wrong in each", likely(busy(), 10, 9, 20, 9), NONE);
    }

    static void promise32FortyBytes() {
        due("20 rows", likely(busy(), rows(20, 1)), 0);
        due("two wrong", likely(busy(), rows(20, 2)), NONE);
    }

    static void promise32UsesTheTapeUpAndNothingElse() {
        CopiedPages x = busy();
        likely(x, 10, 1);
        CopiedPages other = busy();
        other.end(0);
        same("likely", x, other);
    }

    // ---- promise 33

    static void promise33TheTapeIsNotThat() {
        refusedRows("look", y -> y.look());
    }

    static void promise33FewerThanTwo() {
        due("one", look(fresh()), NONE);
        due("reader 1 alone", look(busy(), 40, 100, 50, 100), NONE);
        due("none", look(busy(), 10, 9, 20, 9), NONE);
    }

    static void promise33TwoThatAreAlike() {
        CopiedPages x = fresh();
        x.open(3);
        due("no KEY parts them: the least", look(x), 0);
        CopiedPages y = twoVersions();
        due("40 and 50 part them: the least", look(y), 40);
    }

    static void promise33AllFiveAreAlike() {
        CopiedPages x = twoVersions();
        x.close(1);
        for (int reader = 0; reader < 4; reader++) {
            x.open(reader);
            due("no KEY parts them: the least", look(x), 0);
        }
    }

    static void promise33TheGreatestPartIsTheLeast() {
        due("60 parts two and two, 40 three and one", look(busy()), 60);
        due("of three that fit", look(busy(), 40, 4, 50, 5), 60);
    }

    static void promise33NoneIsAValueToo() {
        CopiedPages x = fresh();
        x.open(0);
        work(x, "put 70 1 80 1");
        x.open(1);
        work(x, "put 80 2");
        due("80: none, 1 and 2; 70: none and two alike", look(x), 80);
    }

    static void promise33Keys0And99() {
        CopiedPages x = fresh();
        x.open(0);
        work(x, "put 99 0");
        due("99", look(x), 99);
        work(x, "put 0 0");
        due("0", look(x), 0);
    }

    static void promise33FortyBytes() {
        due("20 rows", look(busy(), rows(20, 1)), 60);
        due("two wrong", look(busy(), rows(20, 2)), NONE);
    }

    static void promise33UsesTheTapeUpAndNothingElse() {
        CopiedPages x = busy();
        look(x, 10, 1);
        CopiedPages other = busy();
        other.end(0);
        same("look", x, other);
    }

    // ---- promise 34

    static void promise34ReadersFromNoneTo3() {
        CopiedPages x = busy();
        due("together", x.pairs(NONE), 1);
        int[] with = {3, NONE, NONE, 0};
        for (int reader = 0; reader < 4; reader++) {
            due("reader " + reader, x.pairs(reader), with[reader]);
        }
        refused("-2", INDEX, y -> y.pairs(-2));
        refused("4", INDEX, y -> y.pairs(4));
        refused("the least", INDEX, y -> y.pairs(Integer.MIN_VALUE));
        refused("the greatest", INDEX, y -> y.pairs(Integer.MAX_VALUE));
    }

    static void promise34FewerThanTwoOpen() {
        CopiedPages x = fresh();
        due("none", x.pairs(NONE), 0);
        x.open(2);
        due("one", x.pairs(NONE), 0);
        for (int reader = 0; reader < 4; reader++) {
            due("reader " + reader, x.pairs(reader), NONE);
        }
    }

    static void promise34OfUnlikeVersions() {
        CopiedPages x = lastSlipEmpty();
        for (int reader = 0; reader < 4; reader++) {
            x.open(reader);
        }
        due("five PAGES, but one VERSION", x.common(0, 1), 5);
        due("no pair", x.pairs(NONE), 0);
        due("no pair", x.pairs(0), NONE);
        x.close(2);
        work(x, "put 1 99");
        x.open(2);
        due("three leaves", x.pairs(NONE), 3);
        due("none for the first ones is the first way", x.pairs(2), 3);
        due("and back", x.pairs(3), 2);
        due("the others", x.pairs(0) + x.pairs(1), 2 * NONE);
    }

    static void promise34NothingInCommonIsNoPair() {
        CopiedPages x = twoVersions();
        x.open(0);
        due("unlike", x.reader(0) - x.reader(1), 1);
        due("together", x.pairs(NONE), 0);
        due("none is the least", x.pairs(0), NONE);
        due("none is the least", x.pairs(1), NONE);
    }

    static void promise34AllFour() {
        int[][] keys = {{1, 4, 7}, {1, 1, 11}, {10, 1, 4}, {4, 11, 4}, {7, 7, 7}};
        for (int[] changed : keys) {
            CopiedPages x = lastSlipEmpty();
            x.open(2);
            work(x, "put " + changed[0] + " 50");
            x.open(0);
            work(x, "put " + changed[1] + " 51");
            x.open(3);
            work(x, "put " + changed[2] + " 52");
            x.open(1);
            allWays(x);
        }
    }

    /** All ten ways in which four are put two by two, the first in order ahead. */
    private static void allWays(CopiedPages x) {
        int[][] ways = {
            {-1, -1, -1, -1}, {-1, -1, 3, 2}, {-1, 2, 1, -1}, {-1, 3, -1, 1}, {1, 0, -1, -1}, {1, 0, 3, 2},
            {2, -1, 0, -1}, {2, 3, 0, 1}, {3, -1, -1, 0}, {3, 2, 1, 0}};
        int[] best = null;
        int most = NONE;
        for (int[] way : ways) {
            int together = 0;
            for (int reader = 0; reader < 4; reader++) {
                together += way[reader] > reader ? x.common(reader, way[reader]) : 0;
            }
            if (together > most) {
                most = together;
                best = way;
            }
        }
        due("together", x.pairs(NONE), most);
        for (int reader = 0; reader < 4 && best != null; reader++) {
            due("reader " + reader, x.pairs(reader), best[reader]);
        }
    }

    static void promise34AskedAgain() {
        CopiedPages x = lastSlipEmpty();
        x.open(0);
        work(x, "put 1 99");
        x.open(1);
        due("three leaves", x.pairs(NONE), 3);
        due("both", x.pairs(0), 1);
        x.close(1);
        due("none now", x.pairs(NONE), 0);
        due("none now", x.pairs(0), NONE);
        due("none now", x.pairs(1), NONE);
    }

    static void promise34NothingChanges() {
        CopiedPages x = busy();
        x.pairs(NONE);
        x.pairs(0);
        same("asked", x, busy());
    }

    // ---- promise 35

    static void promise35From0To99() {
        CopiedPages x = busy();
        int[][] shares = {
            {0, 0, 0, 0, 0}, {1, 1, 0, 0, 0}, {2, 1, 0, 0, 1}, {3, 2, 0, 0, 1}, {4, 3, 0, 0, 1}, {5, 3, 1, 0, 1},
            {6, 3, 1, 0, 2}, {7, 3, 1, 0, 3}, {8, 4, 1, 0, 3}, {99, 95, 1, 0, 3}};
        for (int[] s : shares) {
            for (int reader = 0; reader < 4; reader++) {
                due(s[0] + " for reader " + reader, x.share(reader, s[0]), s[1 + reader]);
            }
        }
        refused("-1", ARGUMENT, y -> y.share(0, -1));
        refused("100", ARGUMENT, y -> y.share(0, 100));
        refused("the least", ARGUMENT, y -> y.share(0, Integer.MIN_VALUE));
        refused("the greatest", ARGUMENT, y -> y.share(0, Integer.MAX_VALUE));
    }

    static void promise35ReadersFrom0To3() {
        refused("-1", INDEX, y -> y.share(-1, 0));
        refused("4", INDEX, y -> y.share(4, 0));
        refused("the least", INDEX, y -> y.share(Integer.MIN_VALUE, 0));
        refused("the greatest", INDEX, y -> y.share(Integer.MAX_VALUE, 0));
        refused("both wrong", INDEX, y -> y.share(4, 100));
        refused("both wrong", INDEX, y -> y.share(-1, -1));
    }

    static void promise35NoneIsOpen() {
        CopiedPages x = fresh();
        due("all to the least", x.share(0, 99), 99);
        due("none to another", x.share(3, 99), 0);
    }

    static void promise35NothingChanges() {
        CopiedPages x = busy();
        x.share(0, 99);
        same("asked", x, busy());
    }

    // ---- promise 36

    static void promise36WithoutAChange() {
        CopiedPages x = fresh();
        due("committed and taken", x.rests(), 1);
        for (int reader = 0; reader < 4; reader++) {
            x.open(reader);
            due("with READERS", x.rests(), 1);
        }
    }

    static void promise36WithChanges() {
        CopiedPages x = fresh();
        for (int i = 1; i <= 12; i++) {
            put(x, i, 100);
            due(i + " CHANGES", x.rests(), 0);
        }
        x.open(0);
        due("with a READER", x.rests(), 0);
        x.forget();
        due("dropped", x.rests(), 1);
    }

    // ---- promise 37

    static void promise37WhatFrom0To2() {
        CopiedPages x = busy();
        due("WORN", x.most(0), 1);
        due("FULLEST", x.most(1), 4);
        due("OLDEST", x.most(2), 1);
        refused("-1", ELEMENT, y -> y.most(-1));
        refused("3", ELEMENT, y -> y.most(3));
        refused("the least", ELEMENT, y -> y.most(Integer.MIN_VALUE));
        refused("the greatest", ELEMENT, y -> y.most(Integer.MAX_VALUE));
    }

    static void promise37WornOfSeveralTheLeast() {
        due("none is worn", fresh().most(0), 0);
        CopiedPages x = fresh();
        work(x, "put 1 1");
        due("1 and 2", x.most(0), 1);
        work(x, "put 1 2");
        due("all once", x.most(0), 0);
        work(x, "put 1 3");
        due("1 and 2 twice", x.most(0), 1);
        CopiedPages y = fresh();
        for (int i = 0; i < 3; i++) {
            put(y, 1, 1);
            y.cut(0);
        }
        due("torn writes, too", y.most(0), 2);
    }

    static void promise37FullestOfTheHead() {
        CopiedPages x = fresh();
        due("no tree", x.most(1), NONE);
        work(x, "put 1 1 2 2 3 3 4 4");
        due("the root", x.most(1), 2);
        x.open(0);
        work(x, "drop 1 2 3");
        due("not the READER's", x.most(1), 3);
        work(x, "drop 4");
        due("no tree", x.most(1), NONE);
    }

    static void promise37FullestOfSeveralTheLeast() {
        due("3, 4 and 5 have three", lastSlipEmpty().most(1), 3);
        CopiedPages x = lastSlipEmpty();
        work(x, "put 12 12 13 13");
        due("the last has four", x.entry(x.most(1), 3, false), 13);
    }

    static void promise37FullestIsALeaf() {
        CopiedPages x = fresh();
        work(x, "put 1 1 2 1 3 1 4 1 5 1 6 1 7 1 8 1 9 1 10 1 11 1");
        due("a root of four", x.page(x.tree(4, 3), 1), 4);
        due("a leaf of three", x.page(x.most(1), 0), 1);
        due("three", x.page(x.most(1), 1), 3);
    }

    static void promise37OldestOfSeveralTheLeast() {
        CopiedPages x = busy();
        due("on 1", x.most(2), 1);
        x.close(1);
        due("on 2", x.most(2), 0);
        x.close(0);
        x.open(2);
        due("2 and 3 on 3", x.most(2), 2);
        x.close(2);
        due("3", x.most(2), 3);
        x.close(3);
        due("none", x.most(2), NONE);
        CopiedPages y = fresh();
        y.open(3);
        due("on VERSION 0", y.most(2), 3);
    }

    public static void main(String[] args) {
        run(BoundsOfSights.class, 31, 37);
    }
}
