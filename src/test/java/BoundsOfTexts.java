/** Boundary cases of promises 1 to 6: a new object, the TAPE, texts of WORK and of THE LAW, faults. */
public final class BoundsOfTexts extends Cases {
    private static final int BLANKS = 0x20202020;

    private static int feedBlanks(CopiedPages x) {
        return x.feed(BLANKS, BLANKS, BLANKS, BLANKS, BLANKS);
    }

    // ---- promise 1

    static void promise1TheHeadsAtFirst() {
        CopiedPages x = fresh();
        int[] first = {0, NONE, NONE, 2};
        for (int what = 0; what < 4; what++) {
            due("head 0 what " + what, x.head(0, what), first[what]);
            due("head 1 is TORN: what " + what, x.head(1, what), NONE);
        }
        due("page 0 is a HEAD", x.page(0, 0), 4);
        due("page 1 is TORN", x.page(1, 0), 5);
        due("THE HEAD", x.count(9), 0);
        due("VERSION", x.count(0), 0);
        due("HIGH", x.count(7), 2);
    }

    static void promise1PagesBehindAreBlank() {
        CopiedPages x = fresh();
        for (int page = 2; page < 48; page++) {
            due("page " + page, x.page(page, 0), 0);
        }
        due("all 46", x.many(0), 46);
    }

    static void promise1NothingIsWorn() {
        CopiedPages x = fresh();
        for (int page = 0; page < 48; page++) {
            due("WEAR of " + page, x.page(page, 2), 0);
        }
    }

    static void promise1NoReaderIsOpen() {
        CopiedPages x = fresh();
        for (int reader = 0; reader < 4; reader++) {
            due("reader " + reader, x.reader(reader), NONE);
        }
        due("OPEN READERS", x.count(8), 0);
    }

    static void promise1RiskCostTickAreZero() {
        CopiedPages x = fresh();
        due("RISK", x.count(4), 0);
        due("COST", x.count(5), 0);
        due("TICK", x.count(6), 0);
    }

    static void promise1SeedIsOne() {
        due("SEED", fresh().seed(7), 1);
    }

    static void promise1NothingIsToldYet() {
        CopiedPages x = fresh();
        due("CHANGES", x.count(1), 0);
        due("texts", x.count(2), 0);
        due("no LAW", x.count(3), NONE);
        due("no row of THE LOG", x.count(10), 0);
        due("no act", x.count(11), 0);
        due("no IMAGE", x.back(), false);
        due("no TAPE", x.end(1), false);
        due("no fault", x.fault(), NONE);
    }

    static void promise1ObjectsAreApart() {
        CopiedPages x = fresh();
        CopiedPages busy = busy();
        samePicture("beside a busy one", x, fresh());
        samePicture("beside a new one", busy, busy());
    }

    // ---- promise 2

    static void promise2FourHundredBytesAtMost() {
        CopiedPages x = fresh();
        for (int i = 1; i <= 20; i++) {
            due("feed " + i, feedBlanks(x), 20 * i);
        }
        due("a 21st", feedBlanks(x), NONE);
        due("400 all the same", tapeLength(x), 400);
    }

    static void promise2TwentyMoreMustHaveRoom() {
        CopiedPages x = fresh();
        type(x, new int[381]);
        due("behind 381", feedBlanks(x), NONE);
        due("none came", tapeLength(x), 381);
        x.end(380);
        due("behind 380", feedBlanks(x), 400);
        x.end(399);
        due("behind 399", feedBlanks(x), NONE);
        due("none came", tapeLength(x), 399);
    }

    static void promise2NoByteOfARefusedFeedComes() {
        CopiedPages x = fresh();
        type(x, " ".repeat(381) + "put 7 9");
        due("it has 388", x.feed(0x3b707574, 0x20382038, BLANKS, BLANKS, BLANKS), NONE);
        due("no byte", tapeLength(x), 388);
        due("a text", x.work(), 1);
        due("as it was", x.value(4, 7), 9);
        due("nothing more", x.value(4, 8), NONE);
    }

    static void promise2TheHighestByteIsFirst() {
        CopiedPages x = fresh();
        due("put 12 34", x.feed(0x70757420, 0x31322033, 0x34202020, BLANKS, BLANKS), 20);
        x.work();
        due("key 12", x.value(4, 12), 34);
    }

    static void promise2BytesAreNeverBelowZero() {
        CopiedPages x = fresh();
        x.feed(-1, -1, -1, -1, -1);
        x.end(2);
        dueRefused("255 is no KEY", ARGUMENT, x, y -> y.seen());
        x.feed(0x20202080, 0, 0, 0, 0);
        x.end(4);
        dueRefused("128 is no blank", ARGUMENT, x, y -> y.work());
        due("its place", x.fault(), 3);
    }

    static void promise2BehindWhatWasKept() {
        CopiedPages x = fresh();
        x.feed(0x70757420, 0x39393939, 0x39393939, 0, 0);
        x.end(4);
        due("behind four", x.feed(0x35203662, 0, 0, 0, 0), 24);
        x.end(7);
        due("put 5 6", x.work(), 1);
        due("key 5", x.value(4, 5), 6);
    }

    static void promise2AllFiveNumbersInOrder() {
        CopiedPages x = fresh();
        x.feed(0x64726f70, 0x20312032, 0x20332034, 0x20352036, 0x20372078);
        dueRefused("the 20th byte is wrong", ARGUMENT, x, y -> y.work());
        due("its place", x.fault(), 19);
    }

    // ---- promise 3

    static void promise3AllItHas() {
        CopiedPages x = fresh();
        type(x, "risk 7");
        due("six of six", x.end(6), true);
        due("the text", x.work(), 1);
        due("whole", x.count(4), 7);
    }

    static void promise3MoreThanItHas() {
        CopiedPages x = fresh();
        type(x, "risk 7");
        due("seven of six", x.end(7), false);
        due("the most", x.end(Integer.MAX_VALUE), false);
        due("six stay", tapeLength(x), 6);
        x.work();
        due("whole", x.count(4), 7);
    }

    static void promise3BelowZero() {
        CopiedPages x = fresh();
        type(x, "risk 7");
        due("-1", x.end(-1), false);
        due("the least", x.end(Integer.MIN_VALUE), false);
        due("six stay", tapeLength(x), 6);
    }

    static void promise3OfNone() {
        CopiedPages x = fresh();
        due("none of none", x.end(0), true);
        due("one of none", x.end(1), false);
        due("-1 of none", x.end(-1), false);
    }

    static void promise3NoneIsLeft() {
        CopiedPages x = busy();
        due("none", x.end(0), true);
        due("no byte", x.end(1), false);
        due("an empty text", x.work(), 2);
    }

    static void promise3WhatIsCutDoesNotComeBack() {
        CopiedPages x = fresh();
        type(x, "risk 77");
        x.end(6);
        due("seven", x.end(7), false);
        x.work();
        due("cut", x.count(4), 7);
    }

    static void promise3NothingElseHappens() {
        CopiedPages x = busy();
        x.end(-1);
        x.end(9);
        same("refused ends", x, busy());
    }

    static void promise3FourHundred() {
        CopiedPages x = fresh();
        type(x, new int[400]);
        due("400", x.end(400), true);
        due("401", x.end(401), false);
    }

    // ---- promise 4: the text

    static void promise4FourteenLines() {
        CopiedPages x = fresh();
        due("14", work(x, lines("tick 1", 13) + ";tick 2"), 1);
        due("the 14th counts", x.count(6), 2);
        wrongWork(lines("tick 1", 14) + ";^tick 2");
        wrongWork(lines("tick 1", 14) + " ;  ^put 2 2");
        wrongWork(lines("tick 1", 14) + ";^word");
        wrongWork(lines("tick 1", 14) + ";^;");
    }

    static void promise4BehindASemicolonALineMustCome() {
        wrongWork("risk 1;^");
        wrongWork("risk 1 ; ^");
        wrongWork(lines("tick 1", 14) + ";^");
        wrongWork("risk 1;^;risk 2");
        wrongWork("^;");
        wrongWork("  ^;risk 1");
    }

    static void promise4TwelveChangesPut() {
        CopiedPages x = fresh();
        due("12", work(x, "put 1 1 2 2 3 3 4 4 5 5 6 6 7 7 8 8 9 9 10 10 11 11 12 12"), 1);
        due("the 12th", x.value(4, 12), 12);
        wrongWork("put 1 1 2 2 3 3 4 4 5 5 6 6 7 7 8 8 9 9 10 10 11 11 12 12 ^13 13");
        wrongWork("put 1 1 2 2 3 3 4 4 5 5 6 6 7 7 8 8 9 9 10 10 11 11 12 12 ^13");
        wrongWork("put 1 1 2 2 3 3 4 4 5 5 6 6 7 7 8 8 9 9 10 10 11 11 12 12 ^100 1");
    }

    static void promise4TwelveChangesDropped() {
        due("12", work(fresh(), "drop 1 2 3 4 5 6 7 8 9 10 11 12"), 1);
        wrongWork("drop 1 2 3 4 5 6 7 8 9 10 11 12 ^13");
        wrongWork("drop 1 2 3 4 5 6 7 8 9 10 11 12 ^0013");
    }

    static void promise4TwelveChangesInSeveralLines() {
        CopiedPages x = fresh();
        due("12", work(x, "drop 1 2 3 4 5 6;risk 3;put 1 1 2 2 3 3 4 4 5 5;tick 4;drop 1"), 1);
        due("the first was dropped", x.value(4, 1), NONE);
        due("the second was not", x.value(4, 2), 2);
        wrongWork("drop 1 2 3 4 5 6;put 1 1 2 2 3 3 4 4 5 5 6 6;risk 3;drop ^7");
        wrongWork("drop 1 2 3 4 5 6;put 1 1 2 2 3 3 4 4 5 5 6 6;put ^7 7");
        wrongWork("drop 1 2 3 4 5 6;put 1 1 2 2 3 3 4 4 5 5 6 6;drop^");
        wrongWork("drop 1 2 3 4 5 6;put 1 1 2 2 3 3 4 4 5 5 6 6;put ^;");
    }

    static void promise4KeysTo99() {
        CopiedPages x = fresh();
        work(x, "put 0 1 99 2 050 3");
        due("0", x.value(4, 0), 1);
        due("99", x.value(4, 99), 2);
        due("050", x.value(4, 50), 3);
        work(x, "drop 0 99");
        due("0 dropped", x.value(4, 0), NONE);
        due("99 dropped", x.value(4, 99), NONE);
        wrongWork("put ^100 1");
        wrongWork("put 1 1 ^100 1");
        wrongWork("drop ^100");
        wrongWork("drop 99 ^100");
        wrongWork("put ^-1 1");
    }

    static void promise4ValuesTo99() {
        CopiedPages x = fresh();
        work(x, "put 1 0 2 99");
        due("0", x.value(4, 1), 0);
        due("99", x.value(4, 2), 99);
        wrongWork("put 1 ^100");
        wrongWork("put 1 ^999");
        wrongWork("put 1 ^-1");
    }

    static void promise4BehindAKeyAValueMustCome() {
        wrongWork("put 1^");
        wrongWork("put 1 ^");
        wrongWork("put 1 1 2^");
        wrongWork("put 1 1 2^;drop 3");
        wrongWork("put 1 ^drop 3");
    }

    static void promise4PutAndDropTellSomething() {
        wrongWork("put^");
        wrongWork("put^;drop 1");
        wrongWork("drop ^");
        wrongWork("drop ^;drop 1");
        wrongWork("drop ^risk 1");
    }

    static void promise4RiskTo100() {
        CopiedPages x = fresh();
        work(x, "risk 100");
        due("100", x.count(4), 100);
        work(x, "risk 000");
        due("0", x.count(4), 0);
        wrongWork("risk ^101");
        wrongWork("risk^");
        wrongWork("risk 1 ^2");
        wrongWork("risk ^put");
    }

    static void promise4TickTo999() {
        CopiedPages x = fresh();
        work(x, "tick 999");
        due("999", x.count(6), 999);
        work(x, "tick 0");
        due("0", x.count(6), 0);
        wrongWork("tick ^1000");
        wrongWork("tick ^");
        wrongWork("tick 1 ^2");
    }

    static void promise4ThreeDigitsAtMost() {
        due("three", work(fresh(), "put 001 002;drop 003;risk 004;tick 005"), 1);
        wrongWork("put ^0001 1");
        wrongWork("put 1 ^0001");
        wrongWork("drop ^0001");
        wrongWork("drop 1 ^0002");
        wrongWork("risk ^0001");
        wrongWork("tick ^0001");
    }

    static void promise4EmptyOrBlanks() {
        CopiedPages x = fresh();
        due("empty", work(x, ""), 1);
        due("a blank", work(x, " "), 2);
        type(x, " ".repeat(400));
        due("400 blanks", x.work(), 3);
        due("no COMMIT", x.count(0), 0);
        due("no row", x.count(10), 0);
    }

    static void promise4BlanksBetweenAll() {
        CopiedPages x = fresh();
        due("none", work(x, "put1 2 3 4;drop3;risk5"), 1);
        due("put1", x.value(4, 1), 2);
        due("drop3", x.value(4, 3), NONE);
        due("risk5", x.count(4), 5);
        due("many", work(x, "   put   7   8   ;   tick   9   "), 2);
        due("put 7", x.value(4, 7), 8);
        due("tick 9", x.count(6), 9);
        wrongWork("put 1 2^drop 3");
        wrongWork("^putdrop 1");
        wrongWork("^pu t 1 1");
    }

    static void promise4OnlyByte32IsBlank() {
        int[] bytes = {9, 10, 13, 0, 31, 33, 160, 255};
        for (int b : bytes) {
            char c = (char) b;
            wrongWork("^" + c + "put 1 1");
            wrongWork("put^" + c + "1 1");
            wrongWork("put 1^" + c + "1");
            wrongWork("put 1 1^" + c);
        }
    }

    static void promise4WordsOfSmallLetters() {
        String[] words = {"Put", "pUT", "puts", "pu", "p", "a", "z", "spare", "cost", "head", "if", "page", "version"};
        for (String word : words) {
            wrongWork("^" + word + " 1 1");
            wrongWork("put 1 1;^" + word + " 1 1");
        }
        wrongWork("put^` 1");
        wrongWork("put^{ 1");
        wrongWork("put^A 1");
        wrongWork("^5");
    }

    static void promise4WordsLetterByLetter() {
        String[] words = {"but", "pat", "pun", "crop", "dzop", "drip", "droq", "disk", "rask", "rick", "rise", "sick",
            "tack", "tisk", "tics"};
        for (String word : words) {
            wrongWork("^" + word + " 1 1");
        }
    }

    static void promise4DigitsAreZeroToNine() {
        due("0 and 9", work(fresh(), "put 09 90"), 1);
        wrongWork("put 1 1^/");
        wrongWork("put 1 1^:");
        wrongWork("put ^/ 1");
        wrongWork("put ^: 1");
        wrongWork("put 1 ^+1");
    }

    static void promise4TheTextsLengthOf400() {
        wrongWork("risk 1;" + " ".repeat(393) + "^");
        wrongWork(" ".repeat(399) + "^;");
        due("400 bytes", work(fresh(), " ".repeat(394) + "risk 1"), 1);
    }

    static void promise4FourHundredThings() {
        wrongWork("^" + ";".repeat(400));
        wrongWork("^" + "(".repeat(400));
        wrongWork("put" + "^" + ";".repeat(397));
    }

    static void promise4OnlyTheBytesThatAreThere() {
        CopiedPages x = fresh();
        type(x, "risk 777777777");
        x.end(6);
        due("behind the end", x.work(), 1);
        due("RISK", x.count(4), 7);
        type(x, "tick 1;word");
        x.end(6);
        due("behind the end", x.work(), 2);
    }

    // ---- promise 4: what comes of it

    static CopiedPages twelveTexts() {
        CopiedPages x = busy();
        for (int i = 2; i <= 12; i++) {
            work(x, i % 2 == 0 ? "" : "risk 20");
        }
        put(x, 80, 8);
        return x;
    }

    static void promise4TwelveTexts() {
        CopiedPages x = fresh();
        for (int i = 1; i <= 12; i++) {
            due("text " + i, work(x, i == 12 ? "put 1 1" : ""), i);
        }
        due("the 12th counts", x.value(4, 1), 1);
        due("12", x.count(2), 12);
        refusedTape("a 13th", UNSUPPORTED, BoundsOfTexts::twelveTexts, y -> y.work(), NONE, bytesOf("risk 1"));
        refusedTape("an empty 13th", UNSUPPORTED, BoundsOfTexts::twelveTexts, y -> y.work(), NONE);
    }

    static void promise4AWrong13thTextIsWrong() {
        refusedTape("wrong", ARGUMENT, BoundsOfTexts::twelveTexts, y -> y.work(), 5, bytesOf("risk 101"));
    }

    static CopiedPages twelveTextsNearlyFull() {
        CopiedPages x = nearlyFull();
        for (int i = 1; i <= 12; i++) {
            work(x, "");
        }
        return x;
    }

    static void promise4A13thTextIsNotAskedWhetherFull() {
        refusedTape("both", UNSUPPORTED, BoundsOfTexts::twelveTextsNearlyFull, y -> y.work(), NONE,
                bytesOf("put 1 50"));
    }

    static void promise4WrongAndFullTextsAreNoTexts() {
        CopiedPages x = nearlyFull();
        dueRefused("wrong", ARGUMENT, x, y -> work(y, "put"));
        dueRefused("FULL", STATE, x, y -> work(y, "put 1 50"));
        due("none", x.count(2), 0);
        due("the first", work(x, ""), 1);
    }

    static void promise4Full() {
        refusedTape("eight pages of seven", STATE, Cases::nearlyFull, y -> y.work(), NONE,
                bytesOf("risk 9;tick 9;put 1 50"));
        CopiedPages x = nearlyFull();
        due("seven pages of seven", work(x, "risk 9;tick 9;drop 1"), 1);
        due("HIGH", x.count(7), 48);
        due("no TREE", x.tree(4, 3), NONE);
        due("RISK", x.count(4), 9);
        due("TICK", x.count(6), 9);
        due("none are remembered", x.count(11), 0);
    }

    static void promise4FullWithoutAnAlterationIsNot() {
        CopiedPages x = usedUp();
        due("drop what is not there", work(x, "drop 1;risk 3"), 1);
        due("RISK", x.count(4), 3);
        refusedTape("altered back", STATE, Cases::usedUp, y -> y.work(), NONE, bytesOf("put 1 1;drop 1"));
    }

    static void promise4NoCommitWithoutChanges() {
        CopiedPages x = twoVersions();
        work(x, "risk 5;tick 6");
        due("VERSION", x.count(0), 2);
        due("rows", x.count(10), 2);
        due("COST", x.count(5), 7);
    }

    static void promise4NoCommitWhereNothingIsAltered() {
        CopiedPages x = twoVersions();
        work(x, "put 10 1;drop 99 0;put 20 2");
        due("VERSION", x.count(0), 2);
        due("rows", x.count(10), 2);
    }

    static void promise4ACommitWhereAllIsAlteredBack() {
        CopiedPages x = twoVersions();
        work(x, "put 10 9;put 10 1");
        due("VERSION", x.count(0), 3);
        due("rows", x.count(10), 3);
        due("as it was", x.value(4, 10), 1);
    }

    static void promise4ChangesThatWaitStay() {
        CopiedPages x = fresh();
        for (int i = 0; i < 12; i++) {
            put(x, i, i);
        }
        due("12 beside 12", work(x, "put 20 1 21 1 22 1 23 1 24 1 25 1 26 1 27 1 28 1 29 1 30 1 31 1"), 1);
        due("12 wait", x.count(1), 12);
        due("the last", x.change(11, 0), 11);
        due("not committed", x.value(4, 0), NONE);
        due("told", x.tree(4, 0), 12);
    }

    static void promise4WithoutAFailure() {
        CopiedPages x = fresh();
        law(x, "risk 99;risk 99");
        x.seed(5);
        work(x, "risk 100;put 1 1");
        due("through", x.count(0), 1);
        due("no DRAW", x.seed(1), 5);
        due("a row", x.log(0, 2), 0);
    }

    static void promise4TheLastOfSeveralLinesCounts() {
        CopiedPages x = fresh();
        work(x, "risk 5;tick 5;put 1 1;put 1 2;risk 6;tick 7");
        due("RISK", x.count(4), 6);
        due("TICK", x.count(6), 7);
        due("VALUE", x.value(4, 1), 2);
        due("one COMMIT", x.count(0), 1);
        due("its TICK", x.log(0, 0), 7);
    }

    static void promise4NoneAreRemembered() {
        CopiedPages x = busy();
        due("some", x.count(11), 11);
        due("an empty text", work(x, ""), 2);
        due("none", x.count(11), 0);
        due("nothing to undo", x.undo(), false);
    }

    static void promise4ReadersStay() {
        CopiedPages x = busy();
        work(x, "put 60 7");
        due("reader 0", x.reader(0), 2);
        due("reader 1", x.reader(1), 1);
        due("reader 3", x.reader(3), 3);
        due("what reader 3 sees", x.value(3, 60), 6);
        due("THE HEAD", x.value(4, 60), 7);
    }

    // ---- promise 5: the text

    static void promise5TwelveLines() {
        CopiedPages x = fresh();
        due("12", law(x, lines("cost 1", 12)), 12);
        due("count", x.count(3), 12);
        wrongLaw(lines("cost 1", 12) + ";^cost 1");
        wrongLaw(lines("cost 1", 12) + " ; ^cost 1");
        wrongLaw(lines("cost 1", 12) + ";^");
        wrongLaw(lines("cost 1", 12) + ";^put");
    }

    static void promise5BehindASemicolonALineMustCome() {
        wrongLaw("cost 1;^");
        wrongLaw("cost 1 if head; ^");
        wrongLaw("^;");
        wrongLaw("cost 1;^;cost 1");
    }

    static void promise5NumbersOfLinesTo99() {
        due("99", law(fresh(), "risk 99;spare 099;cost 0"), 3);
        wrongLaw("risk ^100");
        wrongLaw("spare ^100 if head");
        wrongLaw("cost ^999");
        wrongLaw("cost ^0001");
        wrongLaw("cost^");
        wrongLaw("cost ^if head");
        wrongLaw("cost^;cost 1");
        wrongLaw("cost 1 ^2");
    }

    static void promise5NumbersOfSumsTo999() {
        due("999", law(fresh(), "risk 1 if 999 > 000 + 999"), 1);
        wrongLaw("risk 1 if ^1000 > page");
        wrongLaw("risk 1 if page < ^1000");
        wrongLaw("risk 1 if page + ^0000 < 1");
        wrongLaw("risk 1 if page ^-1 < 1");
    }

    static void promise5EmptyOrBlanks() {
        CopiedPages x = fresh();
        due("no LAW", x.count(3), NONE);
        due("empty", law(x, ""), 0);
        due("no LINE", x.count(3), 0);
        due("blanks", law(x, " ".repeat(400)), 0);
    }

    static void promise5SixDeep() {
        CopiedPages x = fresh();
        due("six (", law(x, "risk 1 if ((((((head))))))"), 1);
        due("six not", law(x, "risk 1 if not not not not not not head"), 1);
        due("three of each", law(x, "risk 1 if (not(not(not head)))"), 1);
        due("with sums", law(x, "risk 1 if ((((((page+1<2))))))"), 1);
        wrongLaw("risk 1 if ((((((^(head)))))))");
        wrongLaw("risk 1 if ((((((^not head))))))");
        wrongLaw("risk 1 if not not not not not not ^not head");
        wrongLaw("risk 1 if not not not not not not ^(head)");
        wrongLaw("risk 1 if (not(not(not ^(head))))");
        wrongLaw("risk 1 if (not(not(not ^not head)))");
        wrongLaw("risk 1 if head and ((((((even or ^(head)))))))");
    }

    static void promise5OneBehindAnotherIsNotDeeper() {
        CopiedPages x = fresh();
        due("eight (", law(x, "risk 1 if (head) and (head) or (head) and (head) or (head) and (head) or (head)"
                + " and (head)"), 1);
        due("eight not", law(x, "risk 1 if not head and not head or not head and not head or not head and not head"
                + " or not head and not head"), 1);
        due("six twice", law(x, "risk 1 if ((((((head)))))) and ((((((even))))))"), 1);
        due("six of each LINE", law(x, lines("risk 1 if ((((((head))))))", 12)), 12);
        due("six behind five", law(x, "risk 1 if (((((head) or (even))))) and not(((((slip)))))"), 1);
    }

    static void promise5EachIsClosed() {
        wrongLaw("risk 1 if (head^");
        wrongLaw("risk 1 if ((head) ^");
        wrongLaw("risk 1 if (head^;risk 1");
        wrongLaw("risk 1 if head^)");
        wrongLaw("risk 1 if (head)^)");
        wrongLaw("risk 1 if (^)");
        wrongLaw("risk 1 if (^");
        wrongLaw("risk 1 if (^;risk 1");
        wrongLaw("risk 1 if (head and ^;risk 1");
        wrongLaw("risk 1 if (not ^;risk 1");
        wrongLaw("risk 1 if (1<^;risk 1");
        wrongLaw("risk 1 if not (head or ^;risk 1");
        wrongLaw("risk 1^)");
        wrongLaw("risk 1 ^(head)");
    }

    static void promise5ConditionsAreWhole() {
        wrongLaw("risk 1 if^");
        wrongLaw("risk 1 if ^;");
        wrongLaw("risk 1 if ^if head");
        wrongLaw("risk 1 if not^");
        wrongLaw("risk 1 if head and^");
        wrongLaw("risk 1 if head or ^");
        wrongLaw("risk 1 if head and ^or slip");
        wrongLaw("risk 1 if ^or slip");
        wrongLaw("risk 1 if ^and slip");
        wrongLaw("risk 1 if head ^not slip");
        wrongLaw("risk 1 if head ^slip");
        wrongLaw("risk 1 if (head or ^)");
        wrongLaw("risk 1 if head ^if slip");
    }

    static void promise5SumsAreWhole() {
        wrongLaw("risk 1 if page^");
        wrongLaw("risk 1 if 7 ^");
        wrongLaw("risk 1 if page ^and 1<2");
        wrongLaw("risk 1 if page^;");
        wrongLaw("risk 1 if page<^");
        wrongLaw("risk 1 if page<^;");
        wrongLaw("risk 1 if page+^");
        wrongLaw("risk 1 if page+^<1");
        wrongLaw("risk 1 if ^+page<1");
        wrongLaw("risk 1 if ^<page");
        wrongLaw("risk 1 if page<1+^");
        wrongLaw("risk 1 if page<1^<2");
        wrongLaw("risk 1 if page<^>2");
        wrongLaw("risk 1 if page^=2");
        wrongLaw("risk 1 if page ^page<2");
        wrongLaw("risk 1 if 1 ^2<3");
        wrongLaw("risk 1 if head^<1");
        wrongLaw("risk 1 if 1<^even");
        wrongLaw("risk 1 if 1+^slip<2");
        wrongLaw("risk 1 if (page^)<2");
        wrongLaw("risk 1 if 1<^(page)");
        wrongLaw("risk 1 if 1<^not page");
    }

    static void promise5WordsOfSmallLetters() {
        String[] lineWords = {"put", "drop", "tick", "if", "head", "page", "Risk", "risks", "ris", "costs", "z"};
        for (String word : lineWords) {
            wrongLaw("^" + word + " 1");
            wrongLaw("cost 1;^" + word + " 1");
        }
        String[] atoms = {"heads", "hea", "Head", "leaf", "tree", "put", "drop", "risk", "spare", "cost"};
        for (String word : atoms) {
            wrongLaw("risk 1 if ^" + word);
            wrongLaw("risk 1 if page+^" + word + "<1");
        }
        wrongLaw("risk 1 ^ifhead");
        wrongLaw("risk 1 if ^nothead");
        wrongLaw("risk 1 if head ^andslip");
        wrongLaw("risk 1 if head ^xor slip");
        wrongLaw("^riskk 1");
        due("as close as can be", law(fresh(), "risk1if(head)and not(slip)or 1<page"), 1);
    }

    static void promise5WordsLetterByLetter() {
        String[] lineWords = {"disk", "rick", "rise", "share", "space", "spark", "spars", "most", "cast", "cosy"};
        for (String word : lineWords) {
            wrongLaw("^" + word + " 1");
        }
        String[] parts = {"lead", "held", "heat", "flip", "snip", "slit", "oven", "ever", "cage", "pace", "pags", "find",
            "kine", "dear", "wean", "weal", "bows", "rows.", "versions", "version.", "leaders", "reader", "sick", "tuck"};
        for (String word : parts) {
            if (word.endsWith(".")) {
                wrongLaw("risk 1 if " + word.substring(0, word.length() - 1) + "^.<1");
            } else {
                wrongLaw("risk 1 if ^" + word + "<1");
                wrongLaw("risk 1 if 1<^" + word);
            }
        }
        wrongLaw("risk 1 ^of head");
        wrongLaw("risk 1 ^is head");
        wrongLaw("risk 1 if ^nor head");
        wrongLaw("risk 1 if head ^end slip");
        wrongLaw("risk 1 if head ^ant slip");
        wrongLaw("risk 1 if head ^on slip");
    }

    static void promise5FourHundredThings() {
        wrongLaw("^" + ";".repeat(400));
        wrongLaw("cost 1 if 1" + "+1".repeat(194) + " ^");
        CopiedPages x = fresh();
        due("a sum of 193", law(x, "cost 5 if 1" + "+1".repeat(192) + ">192"), 1);
        work(x, "put 1 1");
        due("it is more", x.count(5), 12);
        due("a sum of 193", law(x, "cost 5 if 1" + "+1".repeat(192) + ">193"), 1);
        work(x, "put 2 2");
        due("it is no more", x.count(5), 15);
    }

    static void promise5OnlyByte32IsBlank() {
        int[] bytes = {9, 10, 0, 31, 33, 160, 255};
        for (int b : bytes) {
            char c = (char) b;
            wrongLaw("^" + c + "cost 1");
            wrongLaw("cost^" + c + "1");
            wrongLaw("cost 1^" + c);
            wrongLaw("cost 1 if page^" + c + "<1");
        }
    }

    static void promise5InPlaceOfTheOneBefore() {
        CopiedPages x = fresh();
        put(x, 1, 1);
        law(x, "risk 50");
        due("50", x.comes(), 2500);
        put(x, 1, 1);
        law(x, "risk 10 if head");
        due("10 alone", x.comes(), 9000);
        law(x, "");
        due("none", x.comes(), 10000);
    }

    /** What stays of the one before would turn the shorter one round: of four writes one is the head's. */
    static void promise5NothingStaysOfTheOneBefore() {
        CopiedPages x = versionsKept(4);
        put(x, 1, 50);
        law(x, "risk 50 if not head");
        due("all but the head", x.comes(), 1250);
        law(x, "risk 50 if head");
        due("the head", x.comes(), 5000);
        law(x, "risk 50 if head and 1<2 and not even and not slip or even and even or slip");
        due("the head and slips 10 and 11", x.comes(), 1250);
        law(x, "risk 50 if 2<1");
        due("none", x.comes(), 10000);
        law(x, "risk 50 if head;risk 20 if even and not not head;cost 1 if not head");
        due("the head", x.comes(), 5000);
        law(x, "risk 50 if head;risk 20");
        due("the head more", x.comes(), 8000 * 80 / 100 * 80 / 100 * 30 / 100);
    }

    static void promise5NoneAreRemembered() {
        CopiedPages x = busy();
        law(x, "");
        due("none", x.count(11), 0);
        due("nothing to undo", x.undo(), false);
        due("the LAW stays", x.count(3), 0);
    }

    static void promise5NoTextOfWork() {
        CopiedPages x = fresh();
        for (int i = 0; i < 14; i++) {
            due("law", law(x, "cost 1"), 1);
        }
        due("texts", x.count(2), 0);
    }

    // ---- promise 5: what holds

    /** The leaf of one key on page 2 is written, then head 1: number 1, TICK 137, two readers OPEN. */
    private static void holds(String condition, boolean leaf, boolean head) {
        CopiedPages x = fresh();
        work(x, "tick 137");
        x.open(2);
        x.open(3);
        put(x, 1, 1);
        law(x, "risk 20 if not head and (" + condition + ");risk 10 if head and (" + condition + ")");
        due(condition, x.comes(), 10000 * (leaf ? 80 : 100) / 100 * (head ? 90 : 100) / 100);
    }

    static void promise5LessAndMoreAreNotEqual() {
        holds("1<2", true, true);
        holds("2<2", false, false);
        holds("3<2", false, false);
        holds("2>1", true, true);
        holds("2>2", false, false);
        holds("1>2", false, false);
    }

    static void promise5PageOfAWrite() {
        holds("page<2", false, true);
        holds("page<1", false, false);
        holds("page>1", true, false);
        holds("page>2", false, false);
        holds("page<3", true, true);
    }

    static void promise5KindOfAWrite() {
        holds("kind<1", true, false);
        holds("kind>0", false, true);
        holds("kind>2", false, true);
        holds("kind>3", false, false);
        holds("head", false, true);
        holds("slip", false, false);
        holds("even", true, false);
    }

    /** Kept by a reader: a leaf, slips of six rows and of one, and the head are written. */
    private static void holdsOfSlips(String condition, int writes) {
        CopiedPages x = versionsKept(4);
        put(x, 1, 50);
        due("writes", x.would(NONE), 4);
        law(x, "cost 1 if " + condition);
        int before = x.count(5);
        x.commit();
        due(condition, x.count(5) - before, 4 + writes);
    }

    static void promise5SlipsAreKind2() {
        holdsOfSlips("slip", 2);
        holdsOfSlips("not slip", 2);
        holdsOfSlips("not not slip", 2);
        holdsOfSlips("not slip and not head", 1);
        holdsOfSlips("slip or head", 3);
        holdsOfSlips("slip and head", 0);
        holdsOfSlips("kind>1", 3);
        holdsOfSlips("kind<2", 1);
        holdsOfSlips("kind>1 and kind<3", 2);
    }

    static void promise5RowsOfSlips() {
        holdsOfSlips("slip and rows>5", 1);
        holdsOfSlips("slip and rows>6", 0);
        holdsOfSlips("slip and rows<6", 1);
        holdsOfSlips("slip and rows<2", 1);
        holdsOfSlips("slip and rows<1", 0);
        CopiedPages x = versionsKept(6);
        x.close(0);
        put(x, 2, 2, 3, 3, 4, 4, 5, 5, 6, 6, 7, 7, 8, 8, 9, 9, 10, 10, 11, 11);
        law(x, "risk 50 if slip and rows<1");
        due("the last of none", x.comes(), 5000);
        law(x, "risk 50 if slip and rows>5");
        due("the first of six", x.comes(), 5000);
        law(x, "risk 50 if slip and rows>0");
        due("the first alone", x.comes(), 5000);
    }

    /** Root 2 of four leaves, and no slip. */
    private static void holdsOfBranches(String condition, int writes) {
        CopiedPages x = fresh();
        law(x, "cost 1 if " + condition);
        work(x, "put 1 1 2 1 3 1 4 1 5 1 6 1 7 1 8 1 9 1 10 1 11 1");
        due(condition, x.count(5), 6 + writes);
    }

    static void promise5BranchesAreKind1() {
        holdsOfBranches("kind<1", 4);
        holdsOfBranches("kind>0", 2);
        holdsOfBranches("kind>0 and kind<2", 1);
        holdsOfBranches("kind>1", 1);
        holdsOfBranches("head", 1);
        holdsOfBranches("even", 3);
    }

    static void promise5RowsOfBranchesAreChildren() {
        holdsOfBranches("rows>3", 1);
        holdsOfBranches("rows>4", 0);
        holdsOfBranches("rows>2", 4);
        holdsOfBranches("rows<3 and rows>0", 1);
        holdsOfBranches("rows<1", 1);
    }

    static void promise5RowsOfAWrite() {
        holds("rows<1", false, true);
        holds("rows>0", true, false);
        holds("rows>1", false, false);
    }

    static void promise5VersionThatIsToBe() {
        holds("version>0", true, true);
        holds("version<1", false, false);
        holds("version<2", true, true);
    }

    static void promise5ReadersThatAreOpen() {
        holds("readers>1", true, true);
        holds("readers>2", false, false);
        holds("readers<2", false, false);
        holds("readers<3", true, true);
        CopiedPages x = fresh();
        put(x, 1, 1);
        law(x, "risk 50 if head and readers<1");
        due("none", x.comes(), 5000);
        for (int reader = 0; reader < 4; reader++) {
            x.open(reader);
        }
        due("four are not none", x.comes(), 10000);
        law(x, "risk 50 if head and readers>3");
        due("four", x.comes(), 5000);
        law(x, "risk 50 if head and readers>4");
        due("no more", x.comes(), 10000);
    }

    static void promise5TickGoesRoundAt100() {
        holds("tick>36", true, true);
        holds("tick>37", false, false);
        holds("tick<38", true, true);
        CopiedPages x = fresh();
        put(x, 1, 1);
        law(x, "risk 50 if head and tick>98");
        work(x, "tick 99");
        due("99", x.comes(), 5000);
        law(x, "risk 50 if head and tick<1");
        due("99 is not 0", x.comes(), 10000);
        work(x, "tick 100");
        due("100 is 0", x.comes(), 5000);
    }

    static void promise5VersionGoesRoundAt100() {
        CopiedPages x = fresh();
        for (int i = 1; i <= 98; i++) {
            put(x, 1, i);
            x.commit();
        }
        put(x, 1, 0);
        law(x, "risk 50 if head and version>98");
        due("99", x.comes(), 5000);
        x.commit();
        put(x, 1, 1);
        due("100 is not 99", x.comes(), 10000);
        law(x, "risk 50 if head and version<1");
        due("100 is 0", x.comes(), 5000);
    }

    static void promise5WearGoesRoundAt100() {
        CopiedPages x = fresh();
        for (int i = 1; i <= 198; i++) {
            put(x, 1, i % 100);
            x.commit();
        }
        due("head 1", x.page(1, 2), 99);
        put(x, 1, 99);
        law(x, "risk 50 if head and wear>98");
        due("99", x.comes(), 5000);
        x.commit();
        put(x, 2, 2);
        x.commit();
        due("head 1", x.page(1, 2), 100);
        put(x, 3, 3);
        due("100 is not 99", x.comes(), 10000);
        law(x, "risk 50 if head and wear<1");
        due("100 is 0", x.comes(), 5000);
    }

    static void promise5WearAheadOfTheWrite() {
        CopiedPages x = fresh();
        law(x, "cost 9 if wear>0;cost 50 if wear<1");
        put(x, 1, 1);
        x.commit();
        due("both are new", x.count(5), 2 + 100);
        law(x, "cost 9 if wear>0");
        put(x, 1, 2);
        x.commit();
        due("head 0 was never written", x.count(5), 102 + 3);
        put(x, 1, 3);
        x.commit();
        due("head 1 and page 2 were", x.count(5), 105 + 3 + 18);
    }

    static void promise5NotAndOr() {
        holds("not head", true, false);
        holds("not not head", false, true);
        holds("not head and head", false, false);
        holds("not head or head", true, true);
        holds("not (head or even)", false, false);
        holds("head or even and 2<1", false, true);
        holds("(head or even) and 2<1", false, false);
        holds("2<1 and even or head", false, true);
        holds("1<2 or 1<2 and 2<1", true, true);
        holds("2<1 and 2<1 or 1<2", true, true);
        holds("not 2<1 and 1<2", true, true);
    }

    static void promise5SumsOfSeveral() {
        holds("1+1+1>2", true, true);
        holds("1+1+1>3", false, false);
        holds("page+kind+rows<4", true, false);
        holds("page+kind>3", false, true);
        holds("999+999>999+998", true, true);
        holds("999+999>999+999", false, false);
    }

    static void promise5RisksFromZeroTo100() {
        CopiedPages x = fresh();
        put(x, 1, 1);
        law(x, "spare 99;spare 99");
        due("below 0 is 0", x.comes(), 10000);
        law(x, "risk 99;risk 99");
        due("above 100 is 100", x.comes(), 0);
        law(x, "risk 60;spare 50;risk 60");
        due("70, not less", x.comes(), 900);
        law(x, "spare 50;risk 60");
        due("10, not 60", x.comes(), 8100);
        x.risk(100);
        law(x, "spare 1");
        due("99", x.comes(), 1);
        x.risk(1);
        due("0", x.comes(), 10000);
        law(x, "");
        due("1", x.comes(), 9801);
    }

    static void promise5CostsAreOneAndTheirSum() {
        CopiedPages x = fresh();
        law(x, "cost 0;cost 5 if head;cost 7 if not head;cost 99 if 2<1;risk 9;spare 9");
        put(x, 1, 1);
        x.commit();
        due("a leaf and a head", x.count(5), 8 + 6);
    }

    // ---- promise 6

    static void promise6NoneAheadOfAny() {
        due("a new object", fresh().fault(), NONE);
        CopiedPages x = fresh();
        type(x, "put");
        due("the TAPE was not read", x.fault(), NONE);
    }

    static void promise6TheFirstByte() {
        wrongWork("^x");
        wrongLaw("^x");
        wrongLaw("^" + (char) 255);
    }

    static void promise6TheTextsLength() {
        wrongWork("put^");
        wrongLaw("risk 1 if head and" + " ".repeat(382) + "^");
    }

    static void promise6TheLatestTextAlone() {
        CopiedPages x = fresh();
        dueRefused("wrong", ARGUMENT, x, y -> work(y, "put 1"));
        due("work", x.fault(), 5);
        dueRefused("wrong", ARGUMENT, x, y -> law(y, "risk 1 if"));
        due("law", x.fault(), 9);
        law(x, "risk 1");
        due("a right one", x.fault(), NONE);
        dueRefused("wrong", ARGUMENT, x, y -> law(y, "risk"));
        due("law", x.fault(), 4);
        work(x, "");
        due("an empty one", x.fault(), NONE);
    }

    static void promise6SightsAreNoTexts() {
        CopiedPages x = fresh();
        dueRefused("wrong", ARGUMENT, x, y -> work(y, "put 1"));
        type(x, 1, 1);
        x.seen();
        type(x, 1);
        dueRefused("no rows", ARGUMENT, x, y -> y.look());
        due("it stays", x.fault(), 5);
        work(x, "");
        type(x, 1);
        dueRefused("no rows", ARGUMENT, x, y -> y.likely());
        due("NONE stays", x.fault(), NONE);
    }

    static void promise6RefusedTextsThatAreNotWrong() {
        CopiedPages x = nearlyFull();
        dueRefused("wrong", ARGUMENT, x, y -> work(y, "put 1"));
        dueRefused("FULL", STATE, x, y -> work(y, "put 1 50"));
        due("FULL", x.fault(), NONE);
        for (int i = 1; i <= 12; i++) {
            work(x, "");
        }
        dueRefused("wrong", ARGUMENT, x, y -> law(y, "risk"));
        dueRefused("a 13th", UNSUPPORTED, x, y -> work(y, "put 1 50"));
        due("a 13th", x.fault(), NONE);
    }

    static void promise6StaysWhenActsAreUndone() {
        CopiedPages x = fresh();
        x.risk(5);
        x.image();
        dueRefused("wrong", ARGUMENT, x, y -> work(y, "put 1"));
        x.undo();
        due("undone", x.fault(), 5);
        x.back();
        due("gone back", x.fault(), 5);
    }

    public static void main(String[] args) {
        run(BoundsOfTexts.class, 1, 6);
    }
}
