/** The document's terms: PEOPLE, FAVOURS, TAKES, GIVE, PASS, CALL and DAYS. */
final class PeopleEdges extends Edges {
    @Sentence("An object is used for at most 512 calls after it has been made")
    void all512CallsAnswer() {
        FavourTown x = new FavourTown();
        for (int k = 0; k < 511; k++) {
            due("call " + k, x.days(99), 0);
        }
        due("the 512th call", x.count(7), 511 * 99);
    }

    @Sentence("PEOPLE (at most 12, numbered from 0 on)")
    void atMost12People() {
        FavourTown none = new FavourTown();
        fails("0 of nobody", NOBODY, () -> none.rich(0));
        FavourTown one = people(1, 5);
        due("0 of one", one.rich(0), 0);
        fails("1 of one", NOBODY, () -> one.rich(1));
        FavourTown x = people(12, 5);
        due("12 are there", x.count(0), 12);
        due("the last is 11", x.give(11, 0, 5, 0, false), 0);
        fails("there is no 12", NOBODY, () -> x.rich(12));
        check.wrongTown(x, "person 5", 0);
        due("12 are there still", x.count(0), 12);
    }

    @Sentence("LIMIT (0 to 999)")
    void limitIs0To999() {
        FavourTown x = Check.told("person 0;person 999");
        due("LIMIT 0 lets nothing be given", x.give(0, 1, 1, 0, true), NONE);
        for (int k = 0; k < 10; k++) {
            due("gift " + k, x.give(1, 0, 99, 0, false), k);
        }
        due("to 1000", x.give(1, 0, 10, 0, false), NONE);
        due("to 999", x.give(1, 0, 9, 0, false), 10);
        due("DEBT 999", x.debt(1), 999);
        check.wrongTown(x, "person 1000", 7);
        check.wrongTown(x, "person -1", 7);
    }

    @Sentence("Two may be NEAR.")
    void nearIsOfTwo() {
        FavourTown x = people(3, 99);
        due("none at first", x.count(9), 0);
        Check.town(x, "near 0 1;near 1 0;near 0 1");
        due("one pair, however often told", x.count(9), 1);
        Check.town(x, "give 0 to 2 4;give 1 to 2 4");
        yes("1 is near 0", takesIf(x, "near", 1, 0));
        yes("0 is near 1", takesIf(x, "near", 0, 1));
        no("2 is near none", takesIf(x, "near", 2, 0));
        check.wrongTown(x, "near 1 1", 7);
        FavourTown all = people(12, 1, nears(1, 4));
        for (int one = 5; one < 12; one++) {
            Check.town(all, nears(one, one));
        }
        due("all pairs of 12", all.count(9), 66);
    }

    /** Each of these PEOPLE is near all ahead. */
    private static String nears(int first, int last) {
        StringBuilder text = new StringBuilder();
        for (int one = first; one <= last; one++) {
            for (int other = 0; other < one; other++) {
                text.append(text.length() == 0 ? "near " : ";near ").append(one).append(' ').append(other);
            }
        }
        return text.toString();
    }

    @Sentence("DAY: 0 at first.")
    void dayIs0AtFirst() {
        FavourTown x = people(2, 9);
        due("DAY", x.count(7), 0);
        x.give(0, 1, 1, 1, false);
        due("END behind one DAY", x.look(0, 5), 1);
    }

    @Sentence("HAND LAW, 0 to 10 (10 at first)")
    void handLawIs0To10() {
        FavourTown x = people(3, 99, "give 0 to 1 9");
        due("at first", x.count(8), 10);
        for (int k = 0; k < 10; k++) {
            yes("hand " + k, x.pass(0, 2 - k % 2) != NONE);
        }
        due("an 11th hand", x.pass(0, 2), NONE);
        Check.town(x, "law 0;give 0 to 1 9");
        due("law 0", x.count(8), 0);
        due("the first hand of law 0", x.pass(1, 2), NONE);
        Check.town(x, "law 10");
        due("law 10", x.count(8), 10);
        due("a first hand", x.pass(1, 2), 4608);
        check.wrongTown(x, "law 11", 4);
        due("still 10", x.count(8), 10);
    }

    @Sentence("FAVOURS (at most 40, numbered from 0 on)")
    void atMost40Favours() {
        FavourTown x = people(2, 999);
        fails("none yet", NOBODY, () -> x.look(0, 0));
        for (int k = 0; k < 40; k++) {
            due("favour " + k, x.give(k % 2, 1 - k % 2, k + 1, 0, false), k);
        }
        due("a 41st", x.give(0, 1, 1, 0, false), NONE);
        due("40 are there", x.count(3), 40);
        due("the last is 39", x.look(39, 2), 40);
        fails("there is no 40", NOBODY, () -> x.look(40, 2));
    }

    @Sentence("AMOUNT (1 to 99)")
    void amountIs1To99() {
        FavourTown x = people(2, 999);
        fails("0", WRONG, () -> x.give(0, 1, 0, 0, false));
        fails("100", WRONG, () -> x.give(0, 1, 100, 0, false));
        fails("below 0", WRONG, () -> x.give(0, 1, -1, 0, false));
        fails("far below 0", WRONG, () -> x.give(0, 1, Integer.MIN_VALUE, 0, false));
        due("1", x.give(0, 1, 1, 0, false), 0);
        due("99", x.give(0, 1, 99, 0, false), 1);
        due("of the first", x.look(0, 2), 1);
        due("of the second", x.look(1, 2), 99);
    }

    @Sentence("HANDS: how often it was passed")
    void handsAre0AtFirst() {
        FavourTown x = people(3, 99, "give 0 to 1 9");
        due("at first", x.look(0, 3), 0);
        x.pass(0, 2);
        due("passed", x.look(0, 3), 1);
        has(x, 1, "refuse");
        due("refused", x.pass(0, 1), NONE);
        due("a refused pass is none", x.look(0, 3), 1);
        x.call(0);
        due("called in", x.look(0, 3), 1);
    }

    @Sentence("TIMED: an END (a DAY), or none.")
    void endOrNone() {
        FavourTown x = people(2, 99, "days 7");
        x.give(0, 1, 1, 0, false);
        x.give(0, 1, 1, 1, false);
        x.give(0, 1, 1, 99, false);
        due("none", x.look(0, 5), NONE);
        due("the next day", x.look(1, 5), 8);
        due("the farthest", x.look(2, 5), 106);
        due("none is never an END", x.days(99), 2);
        due("it stands", x.look(0, 1), 1);
    }

    @Sentence("WORTH: AMOUNT times 1024, halved for each of its HANDS (1024 are one WHOLE).")
    void worthIsHalvedByEachHand() {
        FavourTown x = people(3, 999, "give 0 to 1 99;give 0 to 1 1");
        due("99", x.look(0, 4), 101376);
        due("1", x.look(1, 4), 1024);
        int[] large = {50688, 25344, 12672, 6336, 3168, 1584, 792, 396, 198, 99};
        int[] small = {512, 256, 128, 64, 32, 16, 8, 4, 2, 1};
        for (int k = 0; k < 10; k++) {
            due("99 with hands " + (k + 1), x.pass(0, 2 - k % 2), large[k]);
            due("1 with hands " + (k + 1), x.pass(1, 2 - k % 2), small[k]);
        }
        due("99 at last", x.look(0, 4), 99);
        due("1 at last", x.look(1, 4), 1);
    }

    @Sentence("GONE: it is nobody's any more.")
    void goneIsNobodys() {
        FavourTown x = people(3, 99, times(4, "give 0 to 1 9 for 5"));
        x.call(0);
        x.pass(1, 0);
        x.pass(2, 2);
        x.forgive(4);
        x.days(5);
        for (int k = 0; k < 4; k++) {
            due("holder of " + k, x.look(k, 1), NONE);
            due("it is passed no more: " + k, x.pass(k, 2), NONE);
        }
        due("left", x.count(4), 0);
        due("there still", x.count(3), 4);
        due("rich", x.rich(0) + x.rich(1) + x.rich(2), 0);
    }

    @Sentence("DEBT of a PERSON: AMOUNTS of all FAVOURS given by that PERSON that are not GONE.")
    void debtIsOfWhatIsNotGone() {
        FavourTown x = people(3, 99);
        due("none given", x.debt(0), 0);
        Check.town(x, "give 0 to 1 1;give 0 to 1 2;give 0 to 1 4;give 0 to 1 8 for 1;give 0 to 2 16;give 1 to 0 32");
        due("all", x.debt(0), 31);
        x.pass(0, 2);
        due("passed on", x.debt(0), 31);
        x.call(1);
        due("called in", x.debt(0), 29);
        x.pass(2, 0);
        due("come home", x.debt(0), 25);
        x.days(1);
        due("ended", x.debt(0), 17);
        x.forgive(4);
        due("forgiven", x.debt(0), 0);
        due("of another", x.debt(1), 32);
        due("who gave none", x.debt(2), 0);
    }

    @Sentence("RICH: WORTH of all FAVOURS held.")
    void richIsOfAllHeld() {
        FavourTown x = people(6, 999);
        due("none held", x.rich(5), 0);
        for (int k = 0; k < 40; k++) {
            x.give(k / 10, 5, 99, 0, false);
        }
        due("all there can be", x.rich(5), 40 * 99 * 1024);
        x.pass(0, 4);
        due("one less", x.rich(5), 39 * 99 * 1024);
        due("half of it", x.rich(4), 99 * 512);
        x.forgive(-1);
        due("all gone", x.rich(5) + x.rich(4), 0);
    }

    @Sentence("yes, if it is FORCED")
    void forcedIsTaken() {
        FavourTown x = people(4, 99, "give 0 to 1 9 forced;give 0 to 1 9");
        has(x, 2, "refuse");
        has(x, 3, "");
        yes("by who refuses", x.takes(2, 0));
        no("not forced", x.takes(2, 1));
        yes("by a temper of no line", x.takes(3, 0));
        due("given by force", x.give(0, 3, 1, 0, true), 2);
        due("given without", x.give(0, 3, 1, 0, false), NONE);
        x.pass(0, 2);
        x.pass(0, 3);
        due("passed by force", x.look(0, 1), 3);
        Check.town(x, "give 0 to 2 98 forced");
        due("the LIMIT holds for force too", x.count(3), 3);
        FavourTown last = people(12, 99);
        has(last, 11, "refuse");
        for (int k = 0; k < 39; k++) {
            last.give(0, 1, 1, 0, false);
        }
        due("the last of all people refuses", last.give(0, 11, 1, 0, false), NONE);
        due("the last of all favours", last.give(0, 11, 1, 0, true), 39);
        yes("forced as well", last.takes(11, 39));
        no("unlike the one ahead", last.takes(11, 38));
    }

    @Sentence("the first LINE that holds is take")
    void theFirstLineThatHoldsTells() {
        String[] tempers = {"take if 1<2;refuse", "refuse if 1<2;take", "refuse if 2<1;take", "take if 2<1;refuse;take",
            "take if 2<1;take if 1<2;refuse", "refuse if 2<1;refuse if 1<2;take"};
        for (int k = 0; k < tempers.length; k++) {
            FavourTown x = people(2, 99, "give 0 to 1 9");
            has(x, 1, tempers[k]);
            due(tempers[k], bit(x.takes(1, 0)), bit(k % 2 == 0));
        }
        FavourTown x = people(2, 99, "give 0 to 1 9");
        has(x, 1, times(11, "refuse if 2<1") + ";take");
        yes("the 12th", x.takes(1, 0));
    }

    @Sentence("without one that holds no")
    void withoutALineThatHoldsNo() {
        for (String temper : new String[] {"", "  ", "take if 2<1", "refuse if 2<1"}) {
            FavourTown x = people(2, 99, "give 0 to 1 9");
            has(x, 1, temper);
            no("\"" + temper + "\"", x.takes(1, 0));
            due("nor given: \"" + temper + "\"", x.give(0, 1, 1, 0, false), NONE);
        }
    }

    @Sentence("without a TEMPER yes")
    void withoutATemperYes() {
        FavourTown x = people(2, 99, "give 0 to 1 9");
        yes("without", x.takes(1, 0));
        has(x, 1, "refuse");
        no("with one", x.takes(1, 0));
        yes("of another, without", x.takes(0, 0));
        x.has(1, NONE);
        yes("none again", x.takes(1, 0));
    }

    @Sentence("worth: WHOLES of WORTH then, rounded down")
    void worthThenRoundedDown() {
        FavourTown x = people(4, 999, "give 0 to 1 7;give 0 to 1 1;give 0 to 1 99;give 0 to 1 2");
        measures(x, "worth", 3, 2, 0);
        measures(x, "worth", 0, 2, 1);
        measures(x, "worth", 49, 2, 2);
        measures(x, "worth", 1, 2, 3);
        x.pass(0, 2);
        measures(x, "worth", 1, 3, 0);
        for (int k = 0; k < 10; k++) {
            x.pass(2, 2 + k % 2);
        }
        measures(x, "worth", 0, 1, 2);
        yes("a gift is worth all", givenIf(x, just("worth", 5), 5, 0));
        yes("the least gift", givenIf(x, just("worth", 1), 1, 0));
        yes("the greatest gift", givenIf(x, just("worth", 99), 99, 0));
    }

    @Sentence("amount: AMOUNT;")
    void amountIsNotHalved() {
        FavourTown x = people(4, 999, "give 0 to 1 99;give 0 to 1 1");
        measures(x, "amount", 99, 2, 0);
        measures(x, "amount", 1, 2, 1);
        x.pass(0, 2);
        measures(x, "amount", 99, 3, 0);
        yes("of a gift", givenIf(x, just("amount", 5), 5, 0));
    }

    @Sentence("hands: HANDS then")
    void handsThen() {
        FavourTown x = people(4, 999, "give 0 to 1 99");
        yes("of a gift", givenIf(x, just("hands", 0), 5, 0));
        for (int k = 1; k <= 10; k++) {
            measures(x, "hands", k, 3, 0);
            x.pass(0, 1 + k % 2);
        }
        measures(x, "hands", 11, 3, 0);
    }

    @Sentence("left: DAYS to END (999 without)")
    void leftIs999Without() {
        FavourTown x = people(3, 99, "give 0 to 1 1;give 0 to 1 1 for 1;give 0 to 1 1 for 99");
        measures(x, "left", 999, 2, 0);
        measures(x, "left", 1, 2, 1);
        measures(x, "left", 99, 2, 2);
        yes("of a gift without", givenIf(x, just("left", 999), 5, 0));
        yes("of a gift for 1", givenIf(x, just("left", 1), 5, 1));
        yes("of a gift for 99", givenIf(x, just("left", 99), 5, 99));
        x.days(1);
        measures(x, "left", 999, 2, 0);
        measures(x, "left", 0, 2, 1);
        measures(x, "left", 98, 2, 2);
        x.days(3);
        yes("3 below 0", takesIf(x, "left+3<1 and left+4>0", 2, 1));
        yes("of a gift for 99, later", givenIf(x, just("left", 99), 5, 99));
    }

    @Sentence("owed: WHOLES of RICH of the PERSON now, rounded down")
    void owedNowRoundedDown() {
        FavourTown x = people(4, 99, "give 0 to 1 3;give 0 to 1 3;give 0 to 3 1");
        measures(x, "owed", 0, 2, 0);
        measures(x, "owed", 6, 1, 0);
        x.pass(2, 2);
        measures(x, "owed", 0, 2, 0);
        x.pass(0, 2);
        measures(x, "owed", 2, 2, 0);
        x.pass(1, 2);
        measures(x, "owed", 3, 2, 0);
        measures(x, "owed", 0, 1, 0);
        FavourTown y = people(4, 999, times(10, "give 0 to 1 99"), "give 2 to 3 1;pass 10 to 1");
        measures(y, "owed", 990, 1, 0);
        yes("now, not with the gift", givenIf(x, just("owed", 0), 5, 0));
    }

    @Sentence("debt: DEBT of the GIVER now")
    void debtOfTheGiverNow() {
        FavourTown x = people(4, 999, "give 0 to 1 3;give 1 to 2 5;give 0 to 2 4");
        measures(x, "debt", 7, 2, 0);
        measures(x, "debt", 7, 0, 0);
        measures(x, "debt", 5, 3, 1);
        yes("now, not with the gift", givenIf(x, just("debt", 7), 5, 0));
        x.forgive(-1);
        measures(x, "debt", 0, 2, 0);
        yes("of a first gift", givenIf(x, just("debt", 0), 5, 0));
    }

    @Sentence("near: the GIVER is NEAR")
    void nearIsOfTheGiver() {
        FavourTown x = people(4, 99, "near 0 2;near 1 3;give 0 to 1 4");
        yes("near the giver", takesIf(x, "near", 2, 0));
        no("near the holder alone", takesIf(x, "near", 3, 0));
        no("nobody is near oneself", takesIf(x, "near", 0, 0));
        no("a gift of one who is not near", givenIf(x, "near", 1, 0));
        Check.town(x, "near 0 1");
        yes("a gift of one who is near", givenIf(x, "near", 1, 0));
    }

    @Sentence("timed: it is TIMED")
    void timedIfItHasAnEnd() {
        FavourTown x = people(3, 99, "give 0 to 1 4;give 0 to 1 4 for 1");
        no("none", takesIf(x, "timed", 2, 0));
        yes("one day", takesIf(x, "timed", 2, 1));
        no("a gift without", givenIf(x, "timed", 1, 0));
        yes("a gift for 1", givenIf(x, "timed", 1, 1));
        x.days(1);
        yes("ended", takesIf(x, "timed", 2, 1));
    }

    @Sentence("again: the PERSON has held it before.")
    void againIfHeldBefore() {
        FavourTown x = people(4, 99, "give 0 to 1 4;pass 0 to 2;give 0 to 3 4");
        yes("the first holder", takesIf(x, "again", 1, 0));
        yes("who holds it", takesIf(x, "again", 2, 0));
        no("who never held it", takesIf(x, "again", 3, 0));
        no("the giver", takesIf(x, "again", 0, 0));
        no("another favour", takesIf(x, "again", 1, 1));
        yes("who holds it, once more", takesIf(x, "again", 2, 0));
        no("a gift", givenIf(x, "again", 1, 0));
        for (int k = 2; k <= 9; k++) {
            x.pass(0, 1 + k % 2);
        }
        x.pass(0, 3);
        yes("the last of all its hands", takesIf(x, "again", 3, 0));
        x.pass(1, 0);
        yes("the giver, as it came home", takesIf(x, "again", 0, 1));
    }

    @Sentence("refused, if DEBT and AMOUNT would be above LIMIT (as it is ahead of it)")
    void giftAboveTheLimit() {
        FavourTown x = Check.told("person 10;person 10;person 0");
        due("above by one at once", x.give(0, 1, 11, 0, false), NONE);
        due("just the LIMIT at once", x.give(1, 0, 10, 0, false), 0);
        due("below", x.give(0, 1, 4, 0, false), 1);
        due("above by one", x.give(0, 1, 7, 0, false), NONE);
        due("just the LIMIT", x.give(0, 1, 6, 0, false), 2);
        due("nothing more", x.give(0, 1, 1, 0, true), NONE);
        due("DEBT", x.debt(0), 10);
        x.pass(1, 2);
        due("passing is not limited", x.look(1, 1), 2);
        x.call(1);
        due("ahead of it, so what is gone by now counts no more", x.give(0, 2, 4, 0, false), 3);
    }

    @Sentence("or the other does not TAKE it (HANDS 0)")
    void giftThatIsNotTaken() {
        FavourTown x = people(2, 99);
        has(x, 1, "take if hands<1 and worth>amount+0");
        due("worth is not above amount", x.give(0, 1, 5, 0, false), NONE);
        has(x, 1, "take if hands<1 and worth+1>amount");
        due("worth is amount", x.give(0, 1, 5, 0, false), 0);
        has(x, 1, "take if hands>0");
        due("no hands", x.give(0, 1, 5, 0, false), NONE);
        due("one favour", x.count(3), 1);
        due("no debt by what is refused", x.debt(0), 5);
    }

    @Sentence("or there are 40.")
    void giftAbove40() {
        FavourTown x = people(2, 999);
        fillWithFavours(x, 1);
        due("a 41st", x.give(1, 0, 1, 0, true), NONE);
        due("no debt", x.debt(1), 0);
        due("none richer", x.rich(0), 0);
        x.forgive(-1);
        due("those that are gone count", x.give(1, 0, 1, 0, true), NONE);
        due("40", x.count(3), 40);
    }

    @Sentence("refused, if it is GONE")
    void passOfWhatIsGone() {
        FavourTown x = people(3, 99, times(3, "give 0 to 1 4 for 1"));
        x.call(0);
        x.pass(1, 0);
        x.days(1);
        for (int favour = 0; favour < 3; favour++) {
            for (int to = 0; to < 3; to++) {
                due("pass " + favour + " to " + to, x.pass(favour, to), NONE);
            }
        }
        due("no hands by it", x.look(0, 3) + x.look(2, 3), 0);
        due("the row ends at home", x.hand(1, 3), NONE);
    }

    @Sentence("HANDS are HAND LAW or more")
    void passAgainstTheLaw() {
        FavourTown x = people(4, 99, "law 2;give 0 to 1 8 forced");
        due("1 hand", x.pass(0, 2), 4096);
        due("2 hands", x.pass(0, 3), 2048);
        due("a third", x.pass(0, 1), NONE);
        due("home", x.pass(0, 0), NONE);
        Check.town(x, "law 1");
        due("more than the law", x.pass(0, 1), NONE);
        due("home with more than the law", x.pass(0, 0), NONE);
        Check.town(x, "law 3");
        due("a third by law 3", x.pass(0, 1), 1024);
        due("as it was", x.look(0, 3), 3);
    }

    @Sentence("or (who is not the GIVER) does not TAKE it.")
    void passThatIsNotTaken() {
        FavourTown x = people(3, 99, "give 0 to 1 8;give 0 to 1 8");
        has(x, 2, "take if worth>4");
        due("worth 4 is not above 4", x.pass(0, 2), NONE);
        has(x, 2, "take if worth>3");
        due("worth 4 is above 3", x.pass(0, 2), 4096);
        has(x, 0, "refuse");
        no("the giver would not", x.takes(0, 1));
        due("the giver is not asked", x.pass(1, 0), 0);
        due("come home", x.look(1, 1), NONE);
    }

    @Sentence("If it comes to the GIVER, it is GONE (HANDS 1 more).")
    void comesHome() {
        FavourTown x = people(3, 8, "give 0 to 1 8;pass 0 to 2");
        due("home", x.pass(0, 0), 0);
        due("holder", x.look(0, 1), NONE);
        due("hands", x.look(0, 3), 2);
        due("the giver again", x.hand(0, 3), 0);
        due("behind", x.hand(0, 4), NONE);
        due("debt", x.debt(0), 0);
        due("nobody is richer", x.rich(0) + x.rich(1) + x.rich(2), 0);
        Check.town(x, "give 0 to 1 8;" + times(4, "pass 1 to 2;pass 1 to 1") + ";pass 1 to 2");
        due("home by its 10th hand", x.pass(1, 0), 0);
        due("10 hands", x.look(1, 3), 10);
        due("the end of the longest row", x.hand(1, 11), 0);
        due("behind the longest row", x.hand(1, 12), NONE);
    }

    @Sentence("CALL: its HOLDER calls it in: it is GONE.")
    void calledIn() {
        FavourTown x = people(2, 8, "give 0 to 1 8");
        due("call", x.call(0), 8192);
        due("holder", x.look(0, 1), NONE);
        due("no hand by it", x.hand(0, 2), NONE);
        due("debt", x.debt(0), 0);
        due("rich", x.rich(1), 0);
        due("again", x.call(0), NONE);
        due("debt still", x.debt(0), 0);
    }

    @Sentence("A DAY more: all FAVOURS whose END is that DAY (or an earlier one) are GONE.")
    void endOfADay() {
        FavourTown x = people(2, 99, "give 0 to 1 1 for 2;give 0 to 1 2 for 2;give 0 to 1 4 for 3;give 0 to 1 8");
        due("the day ahead", x.days(1), 0);
        due("all are there", x.debt(0), 15);
        due("that day, both", x.days(1), 2);
        due("the later ones stand", x.debt(0), 12);
        due("the next", x.days(1), 1);
        due("nothing twice", x.days(1), 0);
        due("without an end", x.debt(0), 8);
        Check.town(x, "give 0 to 1 1 for 1;give 0 to 1 1 for 5;give 0 to 1 1 for 6");
        due("earlier ones, by many days at once", x.days(5), 2);
        due("the one of the 6th day", x.look(6, 1), 1);
    }
}
