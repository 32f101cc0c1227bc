/** Promises 1 to 20, call by call. */
final class CallEdges extends Edges {
    @Sentence(promise = 1, value = "Nobody; nothing told.")
    void nobodyAndNothing() {
        FavourTown x = new FavourTown();
        int[] counts = {0, 0, 0, 0, 0, 0, 0, 0, 10, 0};
        for (int what = 0; what < counts.length; what++) {
            due("count " + what, x.count(what), counts[what]);
        }
        due("fault", x.fault(), NONE);
        due("fewest", x.fewest(), 0);
        due("witness", x.witness(-1), NONE);
        due("forgive", x.forgive(-1), 0);
        due("clear", x.clear(NONE), 0);
        due("days", x.days(1), 0);
        no("back", x.back());
        yes("the TAPE is empty", tapeIsEmpty(x));
        fails("nobody", NOBODY, () -> x.rich(0));
        fails("no favour", NOBODY, () -> x.hand(0, 0));
        fails("no need", NOBODY, () -> x.meet(0));
        FavourTown y = new FavourTown();
        Check.town(x, "person 9");
        due("an object knows nothing of another", y.count(0), 0);
    }

    @Sentence(promise = 2, value = "Twenty bytes come behind the TAPE")
    void twentyBytesComeBehind() {
        FavourTown x = new FavourTown();
        x.feed(0x6C617720, 0x33202020, 0, 0, 0);
        x.end(6);
        // "law 3 " and twenty blanks
        due("behind what stands", x.feed(0x20202020, 0x20202020, 0x20202020, 0x20202020, 0x20202020), 26);
        due("all of it", x.town(), 1);
        due("law", x.count(8), 3);
    }

    @Sentence(promise = 2, value = "of each number the highest first")
    void theHighestByteFirst() {
        FavourTown x = new FavourTown();
        x.feed(0x64617973, 0x20392020, 0x20202020, 0x20202020, 0x20202020);
        due("days 9", x.town(), 1);
        due("DAY", x.count(7), 9);
        int[] shifts = {0, 8, 16, 24};
        for (int at = 0; at < 20; at++) {
            int[] numbers = {0x20202020, 0x20202020, 0x20202020, 0x20202020, 0x20202020};
            numbers[at / 4] = 0x20202020 ^ 0xDF << shifts[3 - at % 4];
            x.feed(numbers[0], numbers[1], numbers[2], numbers[3], numbers[4]);
            fails("a byte of 255 at " + at, WRONG, () -> x.town());
            due("at " + at, x.fault(), at);
        }
    }

    @Sentence(promise = 2, value = "how many it has;")
    void howManyTheTapeHas() {
        FavourTown x = new FavourTown();
        due("the first", x.feed(-1, -1, -1, -1, -1), 20);
        due("the second", x.feed(0, 0, 0, 0, 0), 40);
        x.end(1);
        due("behind one", x.feed(0, 0, 0, 0, 0), 21);
        x.end(0);
        due("behind none", x.feed(0, 0, 0, 0, 0), 20);
    }

    @Sentence(promise = 2, value = "NONE, and none come, if it would have more than 400.")
    void noMoreThan400() {
        FavourTown x = new FavourTown();
        for (int k = 1; k <= 20; k++) {
            due("feed " + k, x.feed(0, 0, 0, 0, 0), 20 * k);
        }
        due("above 400", x.feed(0, 0, 0, 0, 0), NONE);
        no("none came", x.end(401));
        yes("400 stand", x.end(400));
        yes("one less", x.end(381));
        due("401", x.feed(0x61616161, 0, 0, 0, 0), NONE);
        no("none of them came", x.end(382));
        yes("two less", x.end(380));
        due("400 again", x.feed(0, 0, 0, 0, 0), 400);
        due("above 400 again", x.feed(0, 0, 0, 0, 0), NONE);
    }

    @Sentence(promise = 3, value = "The TAPE has its first n bytes alone: true")
    void theFirstBytesAlone() {
        FavourTown x = new FavourTown();
        yes("none of none", x.end(0));
        Check.write(x, "days 98");
        yes("all", x.end(7));
        yes("but the last", x.end(6));
        no("the last is gone", x.end(7));
        due("the first", x.town(), 1);
        due("DAY", x.count(7), 9);
        Check.write(x, "person 9");
        yes("none", x.end(0));
        due("an empty text", x.town(), 2);
        due("nobody", x.count(0), 0);
    }

    @Sentence(promise = 3, value = "false, and nothing happens, if it has fewer, or n is below 0.")
    void fewerOrBelow0() {
        FavourTown x = new FavourTown();
        no("1 of none", x.end(1));
        no("below 0 of none", x.end(-1));
        Check.write(x, "days 9");
        for (int n : new int[] {7, 20, 400, 401, Integer.MAX_VALUE, -1, -20, Integer.MIN_VALUE}) {
            no("end " + n, x.end(n));
        }
        due("it stands", x.town(), 1);
        due("DAY", x.count(7), 9);
    }

    @Sentence(promise = 4, value = "Uses the TAPE up")
    void townUsesTheTapeUp() {
        FavourTown x = new FavourTown();
        Check.town(x, "person 9");
        yes("by a right text", tapeIsEmpty(x));
        due("an empty text behind", x.town(), 2);
        check.wrongTown(x, "person 9;x", 9);
        yes("by a wrong text", tapeIsEmpty(x));
        due("people", x.count(0), 1);
    }

    @Sentence(promise = 4, value = "how many there are.")
    void howManyTextsThereAre() {
        FavourTown x = new FavourTown();
        due("the first", Check.town(x, ""), 1);
        check.wrongTown(x, "x", 0);
        due("a wrong one is none", Check.town(x, "law 3"), 2);
        due("count", x.count(1), 2);
        x.image();
        due("the third", Check.town(x, "law 4"), 3);
        x.back();
        due("the third again", Check.town(x, "law 5"), 3);
    }

    @Sentence(promise = 4, value = "IllegalArgumentException: it is wrong")
    void aWrongTown() {
        FavourTown x = new FavourTown();
        fails("a wrong text", WRONG, () -> Check.town(x, "person 9;take"));
        due("fault", x.fault(), 9);
        due("none", x.count(1), 0);
        due("nobody", x.count(0), 0);
    }

    @Sentence(promise = 4, value = "UnsupportedOperationException: there are 10.")
    void tenTowns() {
        FavourTown x = new FavourTown();
        for (int k = 1; k <= 9; k++) {
            Check.town(x, "days 1");
        }
        due("the 10th", Check.town(x, "days 1"), 10);
        fails("the 11th", FULL, () -> Check.town(x, "days 1;person 9;law 3"));
        due("DAY", x.count(7), 10);
        due("people", x.count(0), 0);
        due("law", x.count(8), 10);
        due("texts", x.count(1), 10);
        fails("a wrong 11th", WRONG, () -> Check.town(x, "days 1;days"));
        due("DAY still", x.count(7), 10);
    }

    @Sentence(promise = 5, value = "Uses the TAPE up")
    void temperUsesTheTapeUp() {
        FavourTown x = new FavourTown();
        due("right", Check.temper(x, "take"), 0);
        yes("by a right one", tapeIsEmpty(x));
        fails("wrong", WRONG, () -> Check.temper(x, "take;"));
        yes("by a wrong one", tapeIsEmpty(x));
        due("an empty one", x.temper(), 1);
    }

    @Sentence(promise = 5, value = "a TEMPER: its number.")
    void theNumberOfATemper() {
        FavourTown x = people(2, 99, "give 0 to 1 9");
        for (int k = 0; k < 6; k++) {
            due("temper " + k, Check.temper(x, k == 4 ? "take" : "refuse"), k);
        }
        for (int k = 0; k < 6; k++) {
            x.has(1, k);
            due("by temper " + k, bit(x.takes(1, 0)), bit(k == 4));
        }
    }

    @Sentence(promise = 5, value = "IllegalArgumentException: the text is wrong")
    void aWrongTemper() {
        FavourTown x = new FavourTown();
        fails("wrong", WRONG, () -> Check.temper(x, "take;person 9"));
        due("fault", x.fault(), 5);
        due("none", x.count(2), 0);
    }

    @Sentence(promise = 5, value = "UnsupportedOperationException: there are 6.")
    void sixTempers() {
        FavourTown x = people(1, 9);
        for (int k = 0; k < 6; k++) {
            Check.temper(x, "take");
        }
        fails("the 7th", FULL, () -> Check.temper(x, "refuse"));
        due("6", x.count(2), 6);
        due("the last", x.has(0, 5), NONE);
        fails("a wrong 7th", WRONG, () -> Check.temper(x, "refuse;"));
    }

    @Sentence(promise = 6, value = "The first wrong byte of the latest text that was read")
    void theLatestFault() {
        FavourTown x = new FavourTown();
        check.wrongTown(x, "law 3;law 11", 10);
        fails("a temper", WRONG, () -> Check.temper(x, "take if"));
        due("of the latest", x.fault(), 7);
        check.wrongTown(x, "x", 0);
        Check.write(x, "zz");
        fails("a ring is no text", WRONG, () -> x.ring());
        fails("nor a row of hands", NOBODY, () -> Check.fits(x, 0, "zz"));
        due("fault stands", x.fault(), 0);
        check.wrongTown(x, " ".repeat(399) + "x", 399);
        check.wrongTown(x, "days" + " ".repeat(396), 400);
    }

    @Sentence(promise = 6, value = "NONE without one, and ahead of any.")
    void noFault() {
        FavourTown x = new FavourTown();
        due("ahead of any", x.fault(), NONE);
        x.feed(0, 0, 0, 0, 0);
        due("a text that is not read", x.fault(), NONE);
        check.wrongTown(x, "x", 0);
        Check.town(x, "");
        due("of a right town", x.fault(), NONE);
        check.wrongTown(x, "x", 0);
        Check.temper(x, "take");
        due("of a right temper", x.fault(), NONE);
        FavourTown y = new FavourTown();
        for (int k = 0; k < 6; k++) {
            Check.temper(y, "");
        }
        check.wrongTown(y, "x", 0);
        fails("a 7th", FULL, () -> Check.temper(y, "take"));
        due("right, though refused", y.fault(), NONE);
    }

    @Sentence(promise = 7, value = "A PERSON has a TEMPER (NONE: none) from now on")
    void hasATemperFromNowOn() {
        FavourTown x = people(3, 99, "give 0 to 1 9");
        Check.temper(x, "refuse");
        yes("none yet", x.takes(2, 0));
        x.has(2, 0);
        no("from now on", x.takes(2, 0));
        yes("not another", x.takes(1, 0));
        x.has(1, 0);
        no("two by one temper", x.takes(1, 0) || x.takes(2, 0));
        x.has(2, NONE);
        yes("none", x.takes(2, 0));
        Check.town(x, "person 9");
        yes("who comes later has none", x.takes(3, 0));
    }

    @Sentence(promise = 7, value = "which it was.")
    void whichTemperItWas() {
        FavourTown x = people(2, 9);
        for (int k = 0; k < 6; k++) {
            Check.temper(x, "");
        }
        due("none", x.has(1, 5), NONE);
        due("5", x.has(1, 5), 5);
        due("5 again", x.has(1, 0), 5);
        due("0", x.has(1, NONE), 0);
        due("none again", x.has(1, NONE), NONE);
        due("of another", x.has(0, 3), NONE);
    }

    @Sentence(promise = 7, value = "throws IndexOutOfBoundsException")
    void hasOfNoSuchOne() {
        FavourTown x = people(2, 9);
        due("none of none", x.has(1, NONE), NONE);
        fails("no tempers", NOBODY, () -> x.has(1, 0));
        Check.temper(x, "");
        fails("behind", NOBODY, () -> x.has(1, 1));
        fails("below NONE", NOBODY, () -> x.has(1, -2));
        fails("nobody", NOBODY, () -> x.has(2, 0));
        fails("nobody below", NOBODY, () -> x.has(-1, NONE));
        due("none still", x.has(1, 0), NONE);
    }

    @Sentence(promise = 8, value = "GIVE (days 0: not TIMED): the FAVOUR")
    void givesTheFavour() {
        FavourTown x = people(2, 99);
        due("the first", x.give(0, 1, 7, 0, false), 0);
        due("the second", x.give(1, 0, 8, 1, true), 1);
        due("the third", x.give(1, 0, 9, 99, true), 2);
        int[][] looks = {{0, 1, 7, 0, 7168, NONE, 0}, {1, 0, 8, 0, 8192, 1, 1}, {1, 0, 9, 0, 9216, 99, 1}};
        for (int favour = 0; favour < 3; favour++) {
            for (int what = 0; what < 7; what++) {
                due("look " + favour + " " + what, x.look(favour, what), looks[favour][what]);
            }
        }
    }

    @Sentence(promise = 8, value = "NONE if it is refused.")
    void aRefusedGift() {
        FavourTown x = people(2, 9);
        due("above the LIMIT", x.give(0, 1, 10, 0, false), NONE);
        has(x, 1, "refuse");
        due("not taken", x.give(0, 1, 1, 0, false), NONE);
        due("nothing by it", x.count(3) + x.debt(0) + x.rich(1), 0);
        due("the number is not used", x.give(0, 1, 1, 0, true), 0);
        FavourTown y = people(2, 999);
        fillWithFavours(y, 1);
        due("40", y.give(0, 1, 1, 0, true), NONE);
        due("nothing by the 41st", y.debt(0), 40);
    }

    @Sentence(promise = 8, value = "IllegalArgumentException: both are one, AMOUNT is none, or days are not 0 to 99.")
    void aGiftThatIsNone() {
        FavourTown x = people(2, 999);
        fails("both one", WRONG, () -> x.give(1, 1, 1, 0, false));
        for (int amount : new int[] {Integer.MIN_VALUE, -1, 0, 100, Integer.MAX_VALUE}) {
            fails("amount " + amount, WRONG, () -> x.give(0, 1, amount, 0, false));
        }
        for (int days : new int[] {Integer.MIN_VALUE, -1, 100, Integer.MAX_VALUE}) {
            fails("days " + days, WRONG, () -> x.give(0, 1, 1, days, false));
        }
        due("none", x.count(3), 0);
        due("days 0", x.give(0, 1, 1, 0, false), 0);
        due("days 99", x.give(0, 1, 99, 99, false), 1);
        Check.temper(x, "refuse");
        x.has(1, 0);
        fails("an exception, though it would be refused", WRONG, () -> x.give(0, 1, 1, 100, false));
    }

    @Sentence(promise = 8, value = "throws IndexOutOfBoundsException")
    void aGiftOfNobody() {
        FavourTown x = people(2, 9);
        fails("from nobody", NOBODY, () -> x.give(2, 1, 1, 0, false));
        fails("from below", NOBODY, () -> x.give(-1, 1, 1, 0, false));
        fails("to nobody", NOBODY, () -> x.give(0, 2, 1, 0, false));
        fails("to below", NOBODY, () -> x.give(0, -1, 1, 0, false));
        fails("nobody to oneself", NOBODY, () -> x.give(2, 2, 1, 0, false));
        due("none", x.count(3), 0);
    }

    @Sentence(promise = 9, value = "WORTH in the new hand (0 if it came home)")
    void passTellsTheWorth() {
        FavourTown x = people(3, 99, "give 0 to 1 99;pass 0 to 2", "law 10");
        due("the second hand", x.pass(0, 1), 25344);
        due("home", x.pass(0, 0), 0);
        Check.town(x, "give 0 to 1 1");
        for (int k = 1; k <= 10; k++) {
            due("hand " + k, x.pass(1, 1 + k % 2), 1024 >> k);
        }
        due("at least 1", x.look(1, 4), 1);
    }

    @Sentence(promise = 9, value = "NONE if it is refused.")
    void aRefusedPass() {
        FavourTown x = people(4, 99, "give 0 to 1 8;give 0 to 1 8;law 1;pass 1 to 2");
        has(x, 2, "refuse");
        due("not taken", x.pass(0, 2), NONE);
        due("by the law", x.pass(1, 1), NONE);
        due("home by the law", x.pass(1, 0), NONE);
        x.call(0);
        due("gone", x.pass(0, 3), NONE);
        due("gone, home", x.pass(0, 0), NONE);
        due("it stands", x.look(1, 1), 2);
        due("hands", x.look(1, 3), 1);
        due("row", x.hand(1, 3), NONE);
        due("rich", x.rich(2), 4096);
    }

    @Sentence(promise = 9, value = "IllegalArgumentException: the PERSON holds it already.")
    void passToItsHolder() {
        FavourTown x = people(3, 99, "give 0 to 1 8");
        fails("its holder", WRONG, () -> x.pass(0, 1));
        Check.town(x, "law 0");
        fails("its holder, though the law refuses", WRONG, () -> x.pass(0, 1));
        Check.town(x, "law 10");
        x.pass(0, 2);
        fails("its next holder", WRONG, () -> x.pass(0, 2));
        due("the one before may", x.pass(0, 1), 2048);
        x.call(0);
        due("gone: nobody holds it", x.pass(0, 1), NONE);
    }

    @Sentence(promise = 9, value = "throws IndexOutOfBoundsException")
    void passOfNoSuchOne() {
        FavourTown x = people(2, 99);
        fails("no favours", NOBODY, () -> x.pass(0, 1));
        x.give(0, 1, 8, 0, false);
        fails("behind", NOBODY, () -> x.pass(1, 0));
        fails("below", NOBODY, () -> x.pass(-1, 0));
        fails("to nobody", NOBODY, () -> x.pass(0, 2));
        fails("to below", NOBODY, () -> x.pass(0, -1));
        x.call(0);
        fails("gone, to nobody", NOBODY, () -> x.pass(0, -1));
    }

    @Sentence(promise = 10, value = "CALL: WORTH;")
    void callTellsTheWorth() {
        FavourTown x = people(3, 999, "give 0 to 1 99;give 0 to 1 99;give 0 to 1 1");
        due("of no hands", x.call(0), 101376);
        x.pass(1, 2);
        due("of one", x.call(1), 50688);
        for (int k = 1; k <= 10; k++) {
            x.pass(2, 1 + k % 2);
        }
        due("of ten", x.call(2), 1);
    }

    @Sentence(promise = 10, value = "NONE if it is GONE.")
    void callOfWhatIsGone() {
        FavourTown x = people(3, 99, times(4, "give 0 to 1 8 for 1"));
        x.call(0);
        x.pass(1, 0);
        x.pass(2, 2);
        x.forgive(4);
        x.days(1);
        for (int favour = 0; favour < 4; favour++) {
            due("call " + favour, x.call(favour), NONE);
        }
        due("debt", x.debt(0), 0);
        due("rich", x.rich(1), 0);
    }

    @Sentence(promise = 10, value = "throws IndexOutOfBoundsException")
    void callOfNoSuchOne() {
        FavourTown x = people(2, 999);
        fails("no favours", NOBODY, () -> x.call(0));
        fillWithFavours(x, 1);
        due("the last", x.call(39), 1024);
        fails("behind", NOBODY, () -> x.call(40));
        fails("below", NOBODY, () -> x.call(-1));
    }

    @Sentence(promise = 11, value = "So many DAYS more: how many FAVOURS are GONE by it.")
    void howManyAreGoneByDays() {
        FavourTown x = people(2, 99, "give 0 to 1 1 for 1;give 0 to 1 1 for 99;give 0 to 1 1 for 2;give 0 to 1 1");
        due("one day", x.days(1), 1);
        due("the day ahead of its END", x.count(4), 3);
        x.call(2);
        due("not what was gone", x.days(1), 0);
        due("a day less than 99", x.days(96), 0);
        due("DAY 98", x.count(7), 98);
        due("DAY 99", x.days(1), 1);
        due("without an END", x.days(99), 0);
        due("DAY", x.count(7), 198);
        FavourTown y = people(2, 999);
        for (int k = 0; k < 40; k++) {
            y.give(0, 1, 1, 1 + k % 9, false);
        }
        due("all 40", y.days(99), 40);
    }

    @Sentence(promise = 11, value = "IllegalArgumentException: not 1 to 99.")
    void daysAre1To99() {
        FavourTown x = new FavourTown();
        for (int n : new int[] {Integer.MIN_VALUE, -1, 0, 100, Integer.MAX_VALUE}) {
            fails("days " + n, WRONG, () -> x.days(n));
        }
        due("DAY", x.count(7), 0);
        due("1", x.days(1), 0);
        due("99", x.days(99), 0);
        due("DAY 100", x.count(7), 100);
    }

    @Sentence(promise = 12, value = "0 GIVER, 1 HOLDER (NONE if it is GONE)")
    void giverAndHolder() {
        FavourTown x = people(12, 99, "give 11 to 0 8;give 0 to 11 8;pass 0 to 10");
        due("giver", x.look(0, 0), 11);
        due("holder", x.look(0, 1), 10);
        due("giver 0", x.look(1, 0), 0);
        due("holder 11", x.look(1, 1), 11);
        x.pass(0, 11);
        x.call(1);
        due("giver of what came home", x.look(0, 0), 11);
        due("holder of what came home", x.look(0, 1), NONE);
        due("giver of what is gone", x.look(1, 0), 0);
        due("holder of what is gone", x.look(1, 1), NONE);
    }

    @Sentence(promise = 12, value = "2 AMOUNT, 3 HANDS")
    void amountAndHands() {
        FavourTown x = people(3, 999, "give 0 to 1 99;give 0 to 1 1;pass 0 to 2;pass 0 to 0;call 1");
        due("amount", x.look(0, 2), 99);
        due("hands, the one home too", x.look(0, 3), 2);
        due("amount of the least, gone", x.look(1, 2), 1);
        due("no hands", x.look(1, 3), 0);
    }

    @Sentence(promise = 12, value = "4 WORTH (0 if it is GONE)")
    void worthOrGone() {
        FavourTown x = people(3, 99, times(4, "give 0 to 1 8 for 1"));
        due("worth", x.look(0, 4), 8192);
        x.call(0);
        x.pass(1, 0);
        x.pass(2, 2);
        due("worth by a hand", x.look(2, 4), 4096);
        x.forgive(4);
        x.days(1);
        for (int favour = 0; favour < 4; favour++) {
            due("gone: " + favour, x.look(favour, 4), 0);
        }
    }

    @Sentence(promise = 12, value = "5 END (NONE)")
    void endOrNoneOfALook() {
        FavourTown x = people(2, 99, "days 3;give 0 to 1 1;give 0 to 1 1 for 1;give 0 to 1 1 for 99");
        due("none", x.look(0, 5), NONE);
        due("the next day", x.look(1, 5), 4);
        due("the last", x.look(2, 5), 102);
        x.days(1);
        due("gone by it", x.look(1, 5), 4);
    }

    @Sentence(promise = 12, value = "6 1 if it is FORCED.")
    void oneIfForced() {
        FavourTown x = people(2, 99, "give 0 to 1 1;give 0 to 1 1 forced;call 1");
        x.give(0, 1, 1, 0, false);
        x.give(0, 1, 1, 0, true);
        int[] forced = {0, 1, 0, 1};
        for (int favour = 0; favour < 4; favour++) {
            due("forced " + favour, x.look(favour, 6), forced[favour]);
        }
    }

    @Sentence(promise = 12, value = "NoSuchElementException: another what.")
    void anotherWhatOfALook() {
        FavourTown x = people(2, 99, "give 0 to 1 1");
        for (int what : new int[] {Integer.MIN_VALUE, -1, 7, Integer.MAX_VALUE}) {
            fails("what " + what, NO_SUCH, () -> x.look(0, what));
        }
        due("the first", x.look(0, 0), 0);
        due("the last", x.look(0, 6), 0);
    }

    @Sentence(promise = 12, value = "throws IndexOutOfBoundsException")
    void lookAtNoSuchOne() {
        FavourTown x = people(2, 99);
        fails("no favours", NOBODY, () -> x.look(0, 0));
        Check.town(x, "give 0 to 1 1;call 0");
        due("gone is there still", x.look(0, 2), 1);
        fails("behind", NOBODY, () -> x.look(1, 0));
        fails("below", NOBODY, () -> x.look(-1, 0));
    }

    @Sentence(promise = 13, value = "The k-th of HANDS ROW (from 0 on)")
    void theKthHand() {
        FavourTown x = people(3, 99, "give 2 to 0 9");
        due("the giver", x.hand(0, 0), 2);
        due("the first holder", x.hand(0, 1), 0);
        Check.town(x, times(4, "pass 0 to 1;pass 0 to 0") + ";pass 0 to 1;pass 0 to 2");
        for (int k = 1; k <= 10; k++) {
            due("hand " + k, x.hand(0, k), 1 - k % 2);
        }
        due("the last, home", x.hand(0, 11), 2);
        FavourTown y = people(3, 999);
        fillWithFavours(y, 1);
        Check.town(y, times(5, "pass 39 to 2;pass 39 to 1"));
        for (int k = 0; k < 12; k++) {
            due("of the last favour: " + k, y.hand(39, k), k == 0 ? 0 : 2 - k % 2);
        }
    }

    @Sentence(promise = 13, value = "NONE behind it.")
    void noneBehindTheRow() {
        FavourTown x = people(2, 99, "give 0 to 1 9;give 1 to 0 9");
        due("behind the first row", x.hand(0, 2), NONE);
        due("behind the last row", x.hand(1, 2), NONE);
        due("far behind", x.hand(0, 12), NONE);
        due("very far behind", x.hand(0, Integer.MAX_VALUE), NONE);
        due("below 0 there is none either", x.hand(1, -1), NONE);
        due("far below", x.hand(1, Integer.MIN_VALUE), NONE);
        Check.town(x, times(10, "person 9"));
        Check.town(x, "pass 0 to 2;pass 0 to 3;pass 0 to 4;pass 0 to 5;pass 0 to 6;pass 0 to 7;pass 0 to 8;pass 0 to 9");
        Check.town(x, "pass 0 to 10;pass 0 to 11");
        due("the last of the longest", x.hand(0, 11), 11);
        due("behind the longest", x.hand(0, 12), NONE);
    }

    @Sentence(promise = 13, value = "throws IndexOutOfBoundsException")
    void handOfNoSuchOne() {
        FavourTown x = people(2, 99);
        fails("no favours", NOBODY, () -> x.hand(0, 0));
        Check.town(x, "give 0 to 1 1;call 0");
        due("gone", x.hand(0, 1), 1);
        fails("behind", NOBODY, () -> x.hand(1, 99));
        fails("below", NOBODY, () -> x.hand(-1, -1));
    }

    @Sentence(promise = 14, value = "Whether a PERSON would TAKE a FAVOUR that is passed now (whoever holds it, GONE or not).")
    void takesWhatIsPassedNow() {
        FavourTown x = people(3, 99, "give 0 to 1 8;law 0");
        yes("though the law lets none pass", x.takes(2, 0));
        Check.temper(x, "take if worth>3 and hands>0 and hands<2");
        Check.temper(x, "take if worth>4");
        for (int person = 0; person < 3; person++) {
            x.has(person, 0);
            yes("worth 4 then, by " + person, x.takes(person, 0));
            x.has(person, 1);
            no("not above 4, by " + person, x.takes(person, 0));
        }
        x.call(0);
        no("gone, as it would be", x.takes(1, 0));
        x.has(1, 0);
        yes("gone, and taken", x.takes(1, 0));
        Check.town(x, "law 10;give 0 to 2 9 forced");
        x.pass(1, 0);
        yes("forced, come home", x.takes(1, 1));
        due("nothing by it", x.look(0, 3), 0);
    }

    @Sentence(promise = 14, value = "throws IndexOutOfBoundsException")
    void takesOfNoSuchOne() {
        FavourTown x = people(2, 99);
        fails("no favours", NOBODY, () -> bit(x.takes(0, 0)));
        x.give(0, 1, 1, 0, false);
        fails("behind", NOBODY, () -> bit(x.takes(0, 1)));
        fails("below", NOBODY, () -> bit(x.takes(0, -1)));
        fails("nobody", NOBODY, () -> bit(x.takes(2, 0)));
        fails("nobody below", NOBODY, () -> bit(x.takes(-1, 0)));
    }

    @Sentence(promise = 15, value = "RICH.")
    void richOfOne() {
        FavourTown x = people(3, 99);
        due("nothing", x.rich(2), 0);
        Check.town(x, "give 0 to 2 1;give 1 to 2 99;give 0 to 1 2");
        due("both", x.rich(2), 102400);
        x.pass(2, 2);
        due("and half of the third", x.rich(2), 103424);
        due("who passed it on", x.rich(1), 0);
        x.pass(1, 1);
        due("less by what went home", x.rich(2), 2048);
        Check.temper(x, "refuse");
        x.has(1, 0);
        x.pass(0, 1);
        due("a refused pass leaves it", x.rich(2), 2048);
    }

    @Sentence(promise = 15, value = "throws IndexOutOfBoundsException")
    void richOfNobody() {
        FavourTown x = people(12, 9);
        fails("behind", NOBODY, () -> x.rich(12));
        fails("below", NOBODY, () -> x.rich(-1));
        due("the last", x.rich(11), 0);
    }

    @Sentence(promise = 16, value = "DEBT.")
    void debtOfOne() {
        FavourTown x = people(3, 999);
        due("nothing", x.debt(0), 0);
        Check.town(x, times(10, "give 0 to 1 99") + ";give 0 to 2 9");
        due("to the LIMIT", x.debt(0), 999);
        x.pass(0, 2);
        due("passed on, still whole", x.debt(0), 999);
        x.give(0, 1, 1, 0, false);
        due("a refused gift leaves it", x.debt(0), 999);
        x.forgive(2);
        due("nine forgiven", x.debt(0), 108);
    }

    @Sentence(promise = 16, value = "throws IndexOutOfBoundsException")
    void debtOfNobody() {
        FavourTown x = people(12, 9);
        fails("behind", NOBODY, () -> x.debt(12));
        fails("below", NOBODY, () -> x.debt(-1));
        due("the last", x.debt(11), 0);
    }

    @Sentence(promise = 17, value = "OWES.")
    void owesOfTwo() {
        FavourTown x = people(2, 999);
        fillWithFavours(x, 99);
        due("40 at once", x.owes(0, 1), 99 + 39);
        due("the other way", x.owes(1, 0), 0);
        due("one and the same is no fault", x.owes(1, 1), 0);
        x.call(0);
        due("one gone", x.owes(0, 1), 39);
    }

    @Sentence(promise = 17, value = "throws IndexOutOfBoundsException")
    void owesOfNobody() {
        FavourTown x = people(2, 9);
        fails("first behind", NOBODY, () -> x.owes(2, 0));
        fails("first below", NOBODY, () -> x.owes(-1, 0));
        fails("second behind", NOBODY, () -> x.owes(0, 2));
        fails("second below", NOBODY, () -> x.owes(0, -1));
    }

    @Sentence(promise = 18, value = "PAYS by: the FAVOUR; NONE.")
    void paysByAFavour() {
        FavourTown x = people(3, 999);
        due("none", x.pays(1, 2, 1), NONE);
        fillWithFavours(x, 2);
        due("the first alone is worth it", x.pays(1, 2, 1), 0);
        due("none is worth 2", x.pays(1, 2, 2), NONE);
        FavourTown y = people(3, 999);
        for (int k = 0; k < 40; k++) {
            y.give(0, 1, k == 39 ? 50 : 10, 0, false);
        }
        due("the last", y.pays(1, 2, 6), 39);
        due("nothing passed by it", y.look(39, 1), 1);
    }

    @Sentence(promise = 18, value = "both are one")
    void paysToOneself() {
        FavourTown x = people(2, 99, "give 0 to 1 9");
        fails("both one", WRONG, () -> x.pays(1, 1, 1));
        fails("both one, of who holds none", WRONG, () -> x.pays(0, 0, 1));
    }

    @Sentence(promise = 18, value = "N is not 1 to 99.")
    void paysFor1To99() {
        FavourTown x = people(3, 99, "give 0 to 1 99");
        for (int n : new int[] {Integer.MIN_VALUE, -1, 0, 100, Integer.MAX_VALUE}) {
            fails("n " + n, WRONG, () -> x.pays(1, 2, n));
        }
        due("1", x.pays(1, 2, 1), 0);
        due("99", x.pays(1, 2, 99), NONE);
    }

    @Sentence(promise = 18, value = "throws IndexOutOfBoundsException")
    void paysOfNobody() {
        FavourTown x = people(2, 9);
        fails("first behind", NOBODY, () -> x.pays(2, 0, 1));
        fails("first below", NOBODY, () -> x.pays(-1, 0, 1));
        fails("second behind", NOBODY, () -> x.pays(0, 2, 1));
        fails("second below", NOBODY, () -> x.pays(0, -1, 1));
    }

    @Sentence(promise = 19, value = "Whether a NEED can be MET.")
    void canANeedBeMet() {
        FavourTown x = people(3, 50, "give 2 to 0 20;need 0 of 1 10;need 0 of 1 11;need 0 of 1 50;need 0 of 1 51;need 0 of 2 51");
        boolean[] can = {true, true, true, false, false};
        for (int need = 0; need < 5; need++) {
            due("can " + need, bit(x.can(need)), bit(can[need]));
        }
        has(x, 1, "take if hands>0");
        yes("by paying alone", x.can(0));
        no("not by giving", x.can(1));
        due("nothing by it", x.count(3), 1);
        due("it stands", x.look(0, 1), 0);
    }

    @Sentence(promise = 19, value = "throws IndexOutOfBoundsException")
    void canOfNoNeed() {
        FavourTown x = people(2, 9);
        fails("no needs", NOBODY, () -> bit(x.can(0)));
        Check.town(x, "need 0 of 1 1");
        fails("behind", NOBODY, () -> bit(x.can(1)));
        fails("below", NOBODY, () -> bit(x.can(-1)));
    }

    @Sentence(promise = 20, value = "MET: the FAVOUR that was passed or given")
    void metByWhichFavour() {
        FavourTown x = people(3, 60, "give 2 to 1 1;give 2 to 0 20;give 2 to 0 30;need 0 of 1 10");
        due("passed", x.meet(0), 1);
        due("to B", x.look(1, 1), 1);
        due("hands", x.look(1, 3), 1);
        due("the next", x.meet(0), 2);
        due("given", x.meet(0), 3);
        due("giver", x.look(3, 0), 0);
        due("holder", x.look(3, 1), 1);
        due("amount", x.look(3, 2), 10);
        due("worth", x.look(3, 4), 10240);
        due("rich", x.rich(1), (1 + 10 + 15 + 10) * 1024);
    }

    @Sentence(promise = 20, value = "NONE if it cannot be.")
    void notMet() {
        FavourTown x = people(2, 9, "need 0 of 1 9;need 0 of 1 10");
        due("above the LIMIT", x.meet(1), NONE);
        due("nothing by it", x.count(3), 0);
        due("at the LIMIT", x.meet(0), 0);
        due("no more", x.meet(0), NONE);
        FavourTown y = people(2, 999, "need 1 of 0 1");
        fillWithFavours(y, 1);
        due("40", y.meet(0), NONE);
        due("40 still", y.count(3), 40);
    }

    @Sentence(promise = 20, value = "throws IndexOutOfBoundsException")
    void meetOfNoNeed() {
        FavourTown x = people(2, 99);
        fails("no needs", NOBODY, () -> x.meet(0));
        Check.town(x, times(12, "need 0 of 1 1"));
        due("the last", x.meet(11), 0);
        fails("behind", NOBODY, () -> x.meet(12));
        fails("below", NOBODY, () -> x.meet(-1));
    }
}
