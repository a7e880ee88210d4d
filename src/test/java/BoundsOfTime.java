/** Boundary cases of promises 38 to 46: trials, spans, the log, the seed, acts undone, the image, counts. */
public final class BoundsOfTime extends Cases {
    // ---- promise 38

    static void promise38From0To60() {
        CopiedPages x = busy();
        due("VERSION now", x.trial(0, false), 3);
        due("COUNT now", x.trial(0, true), 6);
        refused("-1", ARGUMENT, y -> y.trial(-1, false));
        refused("61", ARGUMENT, y -> y.trial(61, true));
        refused("the least", ARGUMENT, y -> y.trial(Integer.MIN_VALUE, true));
        refused("the greatest", ARGUMENT, y -> y.trial(Integer.MAX_VALUE, false));
    }

    static void promise38AsTheTicksWouldHaveIt() {
        int[] many = {1, 2, 7, 59, 60};
        for (int n : many) {
            CopiedPages x = busy();
            int version = x.trial(n, false);
            int keys = x.trial(n, true);
            x.ticks(n);
            due(n + ": VERSION", version, x.count(0));
            due(n + ": COUNT", keys, x.tree(4, 0));
        }
    }

    static void promise38NothingStays() {
        CopiedPages x = busy();
        x.trial(60, true);
        x.trial(60, false);
        same("tried", x, busy());
    }

    static void promise38FullOrAlwaysFailing() {
        CopiedPages x = nearlyFull();
        due("FULL", x.trial(1, false), 11);
        CopiedPages y = busy();
        y.risk(100);
        due("it fails", y.trial(60, false), 3);
        due("it fails", y.trial(60, true), 6);
    }

    // ---- promise 39

    static void promise39From0To60() {
        CopiedPages x = busy();
        due("the least now", x.span(0, false), 6);
        due("the greatest now", x.span(0, true), 6);
        refused("-1", ARGUMENT, y -> y.span(-1, false));
        refused("61", ARGUMENT, y -> y.span(61, true));
        refused("the least", ARGUMENT, y -> y.span(Integer.MIN_VALUE, true));
        refused("the greatest", ARGUMENT, y -> y.span(Integer.MAX_VALUE, false));
    }

    static void promise39NoKeyAtAll() {
        due("the least", fresh().span(0, false), 0);
        due("the greatest", fresh().span(0, true), 0);
    }

    static void promise39FromSeeds1To6() {
        int[] many = {1, 2, 7, 60};
        for (int n : many) {
            CopiedPages x = busy();
            int least = 100;
            int greatest = 0;
            for (int s = 1; s <= 6; s++) {
                x.seed(s);
                int keys = x.trial(n, true);
                least = Math.min(least, keys);
                greatest = Math.max(greatest, keys);
            }
            x.seed(4242);
            due(n + ": the least", x.span(n, false), least);
            due(n + ": the greatest", x.span(n, true), greatest);
        }
    }

    /** One tick on a disk that nobody wrote to puts one KEY or none. */
    static void promise39EachSeedCounts() {
        CopiedPages x = fresh();
        int least = 1;
        int greatest = 0;
        for (int s = 1; s <= 6; s++) {
            int keys = draw(drawn(s, 1)) % 3 == 2 ? 0 : 1;
            least = Math.min(least, keys);
            greatest = Math.max(greatest, keys);
        }
        due("the least", x.span(1, false), least);
        due("the greatest", x.span(1, true), greatest);
    }

    /** For each number of ticks the bounds are met by one of the six seeds, so that no other seed has a part in it. */
    static void promise39NoOtherSeed() {
        for (int n = 1; n <= 60; n++) {
            boundsAreMet(fresh(), n);
            CopiedPages x = lastSlipEmpty();
            x.risk(20);
            boundsAreMet(x, n);
        }
    }

    private static void boundsAreMet(CopiedPages x, int n) {
        int least = x.span(n, false);
        int greatest = x.span(n, true);
        boolean metLeast = false;
        boolean metGreatest = false;
        for (int s = 1; s <= 6; s++) {
            x.seed(s);
            int keys = x.trial(n, true);
            due("within", keys >= least && keys <= greatest, true);
            metLeast |= keys == least;
            metGreatest |= keys == greatest;
        }
        due("one of six is the least", metLeast, true);
        due("one of six is the greatest", metGreatest, true);
    }

    static void promise39NothingStays() {
        CopiedPages x = busy();
        x.span(60, true);
        x.span(60, false);
        same("tried", x, busy());
    }

    // ---- promise 40

    static void promise40Kinds0And1() {
        CopiedPages x = busy();
        due("written", x.led(0, false), 3);
        due("cut off", x.led(1, false), 0);
        refused("-1", ELEMENT, y -> y.led(-1, false));
        refused("2", ELEMENT, y -> y.led(2, true));
        refused("the least", ELEMENT, y -> y.led(Integer.MIN_VALUE, false));
        refused("the greatest", ELEMENT, y -> y.led(Integer.MAX_VALUE, false));
    }

    static void promise40TheTickOfTheLatest() {
        CopiedPages x = fresh();
        due("none written", x.led(0, true), NONE);
        due("none cut off", x.led(1, true), NONE);
        work(x, "tick 7;put 1 1");
        due("written", x.led(0, true), 7);
        due("none cut off", x.led(1, true), NONE);
        work(x, "tick 9");
        put(x, 1, 2);
        x.cut(0);
        due("cut off", x.led(1, true), 9);
        due("written", x.led(0, true), 7);
        work(x, "tick 0;put 1 2");
        due("at TICK 0", x.led(0, true), 0);
        due("cut off", x.led(1, true), 9);
    }

    static void promise40SixtyRowsAtMost() {
        CopiedPages x = fresh();
        put(x, 1, 1);
        x.cut(0);
        for (int i = 0; i < 59; i++) {
            put(x, 1, i);
            x.commit();
        }
        due("59 written", x.led(0, false), 59);
        due("one cut off", x.led(1, false), 1);
        put(x, 1, 99);
        x.commit();
        due("60 written", x.led(0, false), 60);
        due("none cut off", x.led(1, false), 0);
        due("its TICK", x.led(1, true), NONE);
        put(x, 1, 98);
        x.commit();
        due("60 at most", x.led(0, false), 60);
    }

    // ---- promise 41

    static void promise41HowLongAgo() {
        CopiedPages x = busy();
        due("the latest", x.log(0, 1), 3);
        due("the first", x.log(2, 1), 1);
        int[] beyond = {3, 4, 59, 60, -1, Integer.MIN_VALUE, Integer.MAX_VALUE};
        for (int ago : beyond) {
            for (int what = 0; what < 4; what++) {
                due(ago + " ago what " + what, x.log(ago, what), NONE);
            }
        }
        due("none at all", fresh().log(0, 0), NONE);
    }

    static void promise41WhatFrom0To3() {
        CopiedPages x = fresh();
        work(x, "tick 12;put 1 1");
        put(x, 1, 2);
        x.cut(2);
        int[][] rows = {{12, 2, 1, 2}, {12, 1, 0, 2}};
        for (int what = 0; what < 4; what++) {
            due("cut off, what " + what, x.log(0, what), rows[0][what]);
            due("written, what " + what, x.log(1, what), rows[1][what]);
        }
        refused("-1", ELEMENT, y -> y.log(0, -1));
        refused("4", ELEMENT, y -> y.log(0, 4));
        refused("4 of no row", ELEMENT, y -> y.log(60, 4));
        refused("the least", ELEMENT, y -> y.log(0, Integer.MIN_VALUE));
        refused("the greatest", ELEMENT, y -> y.log(0, Integer.MAX_VALUE));
    }

    static void promise41SixtyRowsAtMost() {
        CopiedPages x = fresh();
        for (int i = 1; i <= 60; i++) {
            put(x, 1, i);
            x.commit();
            due("rows", x.count(10), i);
        }
        due("the first", x.log(59, 1), 1);
        put(x, 1, 0);
        x.commit();
        due("60 at most", x.count(10), 60);
        due("the latest", x.log(0, 1), 61);
        due("the first is gone", x.log(59, 1), 2);
        due("no more", x.log(60, 1), NONE);
    }

    static void promise41NoRowWhereNothingCame() {
        CopiedPages x = twoVersions();
        put(x, 10, 1);
        x.commit();
        x.cut(0);
        x.store();
        due("rows", x.count(10), 2);
        CopiedPages y = nearlyFull();
        put(y, 1, 50);
        dueRefused("FULL", STATE, y, z -> z.commit());
        due("rows", y.count(10), 11);
    }

    // ---- promise 42

    static void promise42AnyNumber() {
        CopiedPages x = fresh();
        int[] seeds = {0, -1, Integer.MIN_VALUE, Integer.MAX_VALUE, 1};
        int before = 1;
        for (int n : seeds) {
            due("what it was", x.seed(n), before);
            before = n;
        }
    }

    static void promise42NoAct() {
        CopiedPages x = busy();
        x.seed(7);
        due("acts", x.count(11), 11);
        due("stays", x.seed(4242), 7);
        same("set back", x, busy());
    }

    /** Seeds whose next one has its highest bit, or has not: bits 16 to 30 alone are drawn. */
    static void promise42DrawsGoRound() {
        int[] seeds = {0, 1, -1, 2, 3, 4, 5, Integer.MIN_VALUE, Integer.MAX_VALUE, 123456789};
        boolean below = false;
        boolean above = false;
        for (int s : seeds) {
            CopiedPages x = fresh();
            x.seed(s);
            x.ticks(1);
            int next = 1103515245 * s + 12345;
            below |= next < 0;
            above |= next >= 0;
            int key = (next >>> 16 & 0x7fff) % 100;
            boolean removes = draw(drawn(s, 1)) % 3 == 2;
            due("seed " + s, x.value(4, key), removes ? NONE : draw(drawn(s, 2)) % 100);
            due("KEYS", x.tree(4, 0), removes ? 0 : 1);
            due("SEED", x.seed(0), drawn(s, removes ? 2 : 5));
        }
        due("both kinds were drawn", below && above, true);
    }

    // ---- promise 43

    static void promise43NothingToUndo() {
        CopiedPages x = fresh();
        due("a new object", x.undo(), false);
        same("nothing happened", x, fresh());
    }

    static void promise43TwelveAreRemembered() {
        CopiedPages x = fresh();
        for (int i = 1; i <= 12; i++) {
            x.risk(i);
            due("acts", x.count(11), i);
        }
        x.risk(13);
        due("12 at most", x.count(11), 12);
        for (int i = 12; i >= 1; i--) {
            due("undone", x.undo(), true);
            due("RISK", x.count(4), i);
            due("acts", x.count(11), i - 1);
        }
        due("the first is forgotten", x.undo(), false);
        due("RISK", x.count(4), 1);
    }

    static void promise43ActsBehindAnUndo() {
        CopiedPages x = fresh();
        x.risk(1);
        x.risk(2);
        x.undo();
        x.risk(3);
        due("two", x.count(11), 2);
        x.undo();
        due("as ahead of the third", x.count(4), 1);
        x.undo();
        due("as ahead of the first", x.count(4), 0);
        due("no more", x.undo(), false);
    }

    /** One act, undone, leaves what another one does, undone: risk is the one that touches nothing else. */
    private static void undone(String what, Scene scene, Call act) {
        CopiedPages x = scene.make();
        int acts = x.count(11);
        act.on(x);
        due(what + " is an act", x.count(11), Math.min(12, acts + 1));
        due(what + " is undone", x.undo(), true);
        CopiedPages other = scene.make();
        other.risk(other.count(4));
        other.undo();
        same(what, x, other);
    }

    private static CopiedPages failing() {
        CopiedPages x = busy();
        x.risk(100);
        return x;
    }

    private static CopiedPages nothingWaits() {
        CopiedPages x = busy();
        x.forget();
        return x;
    }

    static void promise43EachActIsUndoneWhole() {
        undone("ticks", Cases::busy, y -> y.ticks(60));
        undone("ticks that fail", BoundsOfTime::failing, y -> y.ticks(60));
        undone("put", Cases::busy, y -> y.put(0, 0));
        undone("forget", Cases::busy, y -> y.forget());
        undone("commit", Cases::busy, y -> y.commit());
        undone("cut", Cases::busy, y -> y.cut(3));
        undone("cut at the head", Cases::busy, y -> y.cut(5));
        undone("store", Cases::busy, y -> y.store());
        undone("store that fails", BoundsOfTime::failing, y -> y.store());
        undone("open", Cases::busy, y -> y.open(2));
        undone("close", Cases::busy, y -> y.close(1));
        undone("risk", Cases::busy, y -> y.risk(99));
    }

    static void promise43ActsOfWhichNothingCame() {
        undone("forget", BoundsOfTime::nothingWaits, y -> y.forget());
        undone("commit", BoundsOfTime::nothingWaits, y -> y.commit());
        undone("cut", BoundsOfTime::nothingWaits, y -> y.cut(0));
        undone("store", BoundsOfTime::nothingWaits, y -> y.store());
        undone("ticks on a full disk", Cases::nearlyFull, y -> y.ticks(1));
    }

    static void promise43ChangesThatWereToldOver() {
        CopiedPages x = fresh();
        put(x, 1, 11, 2, 100);
        x.forget();
        put(x, 3, 33, 4, 44);
        x.undo();
        x.undo();
        x.undo();
        due("two", x.count(1), 2);
        due("KEY", x.change(0, 0), 1);
        due("VALUE", x.change(0, 1), 11);
        due("KEY", x.change(1, 0), 2);
        due("VALUE", x.change(1, 1), 100);
    }

    static void promise43RowsOfTheLogThatWereWrittenOver() {
        CopiedPages x = fresh();
        for (int i = 1; i <= 90; i++) {
            put(x, 1, i % 100);
            x.commit();
            if (i >= 60) {
                put(x, 2, i % 100);
                x.cut(0);
                due("the first is gone", x.log(59, 1), i - 58);
                x.undo();
                due("it is back", x.log(59, 1), i - 59);
                due("the latest", x.log(0, 1), i);
                due("its kind", x.log(0, 2), 0);
                x.undo();
            }
        }
    }

    static void promise43QuestionsAreNoActs() {
        CopiedPages x = busy();
        x.image();
        x.seed(1);
        x.would(NONE);
        x.comes();
        x.trial(5, true);
        x.span(5, true);
        x.pairs(NONE);
        x.share(0, 9);
        type(x, 1, 1);
        x.seen();
        due("acts", x.count(11), 11);
    }

    static void promise43TextsAndGoingBackForget() {
        CopiedPages x = busy();
        work(x, "");
        due("a text of WORK", x.undo(), false);
        CopiedPages y = busy();
        law(y, "");
        due("THE LAW", y.undo(), false);
        CopiedPages z = busy();
        z.back();
        due("gone back", z.undo(), false);
    }

    static void promise43WrongTextsForgetNothing() {
        CopiedPages x = busy();
        dueRefused("wrong", ARGUMENT, x, y -> work(y, "put"));
        dueRefused("wrong", ARGUMENT, x, y -> law(y, "risk"));
        due("acts", x.count(11), 11);
        CopiedPages z = fresh();
        z.risk(5);
        z.back();
        due("no IMAGE to go back to", z.count(11), 1);
    }

    static void promise43TheTapeAndTheFaultStay() {
        CopiedPages x = fresh();
        x.risk(5);
        dueRefused("wrong", ARGUMENT, x, y -> work(y, "put"));
        type(x, "put 1 1");
        due("undone", x.undo(), true);
        due("fault", x.fault(), 3);
        due("the TAPE", x.work(), 1);
        due("its text", x.value(4, 1), 1);
    }

    static void promise43TheImageStays() {
        CopiedPages x = fresh();
        x.risk(5);
        x.image();
        x.risk(6);
        x.undo();
        x.undo();
        due("undone", x.count(4), 0);
        due("THE IMAGE", x.back(), true);
        due("as it was kept", x.count(4), 5);
    }

    static void promise43TheSeedIsAsAheadOfIt() {
        CopiedPages x = fresh();
        x.seed(5);
        x.ticks(3);
        x.undo();
        due("SEED", x.seed(0), 5);
    }

    // ---- promises 44 and 45

    static void promise44TheLatestAlone() {
        CopiedPages x = fresh();
        x.risk(1);
        x.image();
        x.risk(2);
        x.image();
        x.risk(3);
        due("back", x.back(), true);
        due("the second", x.count(4), 2);
        due("again", x.back(), true);
        due("the second", x.count(4), 2);
    }

    static void promise44NothingChanges() {
        CopiedPages x = nearlyFull();
        x.image();
        CopiedPages y = nearlyFull();
        samePicture("kept", x, y);
        due("no act", x.count(11), 12);
        due("undo", x.undo(), true);
    }

    static void promise44OfAll() {
        CopiedPages x = busy();
        x.image();
        work(x, "risk 0;tick 9;put 0 0 99 99");
        law(x, "");
        x.ticks(60);
        x.close(1);
        put(x, 5, 5);
        x.seed(1);
        due("back", x.back(), true);
        CopiedPages other = busy();
        other.image();
        other.back();
        samePicture("gone back", x, other);
    }

    static void promise44OfANewObject() {
        CopiedPages x = fresh();
        x.image();
        work(x, "put 1 1");
        law(x, "risk 1");
        x.seed(9);
        x.back();
        due("no LAW", x.count(3), NONE);
        samePicture("new", x, fresh());
    }

    static void promise44TheLawOfThen() {
        CopiedPages x = fresh();
        put(x, 1, 1);
        law(x, "risk 50 if head;cost 9");
        x.image();
        law(x, "risk 10 if even");
        due("another", x.comes(), 9000);
        x.back();
        due("LINES", x.count(3), 2);
        due("what holds", x.comes(), 5000);
        x.commit();
        due("what it costs", x.count(5), 20);
    }

    static void promise44ChangesAndRowsOfThen() {
        CopiedPages x = twoVersions();
        put(x, 1, 11, 2, 100);
        x.image();
        x.close(1);
        x.forget();
        put(x, 3, 33, 4, 44);
        for (int i = 0; i < 60; i++) {
            x.commit();
            put(x, 5, i, 6, 60 - i);
        }
        x.back();
        due("KEY", x.change(0, 0), 1);
        due("VALUE", x.change(1, 1), 100);
        due("rows", x.count(10), 2);
        due("the first row", x.log(1, 1), 1);
        due("behind it", x.log(2, 1), NONE);
    }

    static void promise45NoneWasKept() {
        CopiedPages x = nearlyFull();
        due("none", x.back(), false);
        same("nothing happened", x, nearlyFull());
    }

    static void promise45NoneAreRemembered() {
        CopiedPages x = busy();
        due("some", x.count(11), 11);
        due("back", x.back(), true);
        due("none", x.count(11), 0);
        due("nothing to undo", x.undo(), false);
    }

    static void promise45TheTapeAndTheFaultStay() {
        CopiedPages x = fresh();
        x.image();
        dueRefused("wrong", ARGUMENT, x, y -> work(y, "put"));
        type(x, "put 1 1");
        x.back();
        due("fault", x.fault(), 3);
        due("the TAPE", x.work(), 1);
        due("its text", x.value(4, 1), 1);
        CopiedPages y = fresh();
        type(y, "risk 5");
        y.image();
        y.end(0);
        y.back();
        due("no TAPE in THE IMAGE", y.end(1), false);
    }

    static void promise45AgainAndAgain() {
        CopiedPages x = busy();
        x.back();
        x.ticks(60);
        x.back();
        CopiedPages other = busy();
        other.back();
        samePicture("twice", x, other);
    }

    static void promise45TheTextsThatThereWere() {
        CopiedPages x = fresh();
        work(x, "");
        x.image();
        for (int i = 2; i <= 12; i++) {
            work(x, "");
        }
        x.back();
        due("one", x.count(2), 1);
        due("room again", work(x, ""), 2);
    }

    // ---- promise 46

    static void promise46WhatFrom0To11() {
        CopiedPages x = busy();
        int[] counts = {3, 2, 1, 2, 35, 17, 0, 10, 3, 1, 3, 11};
        for (int what = 0; what < 12; what++) {
            due("what " + what, x.count(what), counts[what]);
        }
    }

    static void promise46AnotherWhat() {
        CopiedPages x = busy();
        int[] whats = {-1, 12, 13, Integer.MIN_VALUE, Integer.MAX_VALUE};
        for (int what : whats) {
            due("what " + what, x.count(what), NONE);
        }
        same("asked", x, busy());
    }

    static void promise46NoLawAndOneWithoutALine() {
        CopiedPages x = fresh();
        due("no LAW", x.count(3), NONE);
        law(x, "");
        due("no LINE", x.count(3), 0);
        law(x, "cost 1");
        due("one", x.count(3), 1);
        dueRefused("wrong", ARGUMENT, x, y -> law(y, "cost"));
        due("one", x.count(3), 1);
    }

    static void promise46WhichHead() {
        CopiedPages x = fresh();
        due("0", x.count(9), 0);
        work(x, "put 1 1");
        due("1", x.count(9), 1);
        work(x, "put 1 2");
        due("0", x.count(9), 0);
    }

    public static void main(String[] args) {
        run(BoundsOfTime.class, 38, 46);
    }
}
