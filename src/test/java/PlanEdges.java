/** The document's terms: PAYS, NEEDS, FORGIVE, PORT, RINGS, LOSS, PLAYED, THE IMAGE and the exceptions. */
final class PlanEdges extends Edges {
    private long seed;

    @Sentence("of the FAVOURS held by the first that could be PASSED to the other (who is not its GIVER)")
    void paysByWhatCouldBePassed() {
        FavourTown x = people(4, 99);
        due("holds nothing", x.pays(1, 2, 1), NONE);
        Check.town(x, "give 0 to 1 8;give 2 to 1 9");
        due("not by what the other gave", x.pays(1, 0, 1), 1);
        due("by what a third one gave", x.pays(1, 2, 1), 0);
        due("not by what another holds", x.pays(3, 2, 1), NONE);
        due("nor by what it gave itself", x.pays(0, 3, 1), NONE);
        has(x, 2, "refuse");
        due("what is not taken", x.pays(1, 2, 1), NONE);
        Check.town(x, "law 0");
        due("no hand is left", x.pays(1, 3, 1), NONE);
        Check.town(x, "law 1");
        due("one hand is left", x.pays(1, 3, 1), 0);
        x.pass(0, 3);
        due("it is used", x.pays(3, 1, 1), NONE);
        x.call(1);
        due("gone", x.pays(1, 3, 1), NONE);
    }

    @Sentence("those worth N WHOLES at least in the other's hand")
    void paysByWhatIsWorthIt() {
        FavourTown x = people(3, 999, "give 0 to 1 8");
        due("just 4", x.pays(1, 2, 4), 0);
        due("not 5", x.pays(1, 2, 5), NONE);
        Check.town(x, "give 0 to 1 9;give 0 to 1 99");
        due("4 and a half are 4", x.pays(1, 2, 4), 0);
        due("4 and a half are not 5", x.pays(1, 2, 5), 2);
        due("49 and a half", x.pays(1, 2, 49), 2);
        due("not 50", x.pays(1, 2, 50), NONE);
        FavourTown y = people(3, 99, "give 0 to 1 1;give 0 to 1 2;give 0 to 1 3");
        due("half a WHOLE is none", y.pays(1, 2, 1), 1);
        due("none is worth 2", y.pays(1, 2, 2), NONE);
    }

    @Sentence("the one worth least there, of several the least.")
    void paysByTheLeast() {
        FavourTown x = people(3, 999, "give 0 to 1 40;give 0 to 1 20;give 0 to 1 10;give 0 to 1 10");
        due("the one worth least", x.pays(1, 2, 1), 2);
        due("the one worth least of what is enough", x.pays(1, 2, 6), 1);
        x.call(2);
        due("the other alike", x.pays(1, 2, 1), 3);
        // 40 passed twice is as much as the 10
        x.pass(0, 2);
        x.pass(0, 1);
        due("alike by hands, the least number", x.pays(1, 2, 1), 0);
    }

    @Sentence("if A PAYS B so; else if A could GIVE B a plain FAVOUR of N.")
    void metByPayingElseByGiving() {
        FavourTown x = people(3, 9, "give 2 to 0 8;need 0 of 1 4;need 0 of 1 9;need 0 of 1 10;need 0 of 2 4");
        due("paid", x.meet(0), 0);
        due("to B", x.look(0, 1), 1);
        yes("given at the LIMIT", x.can(1));
        no("above the LIMIT", x.can(2));
        due("not met", x.meet(2), NONE);
        due("not paid to its giver, but given", x.meet(3), 1);
        due("amount", x.look(1, 2), 4);
        due("not timed", x.look(1, 5), NONE);
        due("not forced", x.look(1, 6), 0);
        FavourTown y = people(2, 99, "need 0 of 1 5");
        has(y, 1, "refuse");
        no("a plain one is not forced", y.can(0));
        has(y, 1, "take if timed");
        no("nor timed", y.can(0));
        has(y, 1, "take if hands<1 and amount>4 and amount<6");
        yes("of no hands", y.can(0));
        FavourTown z = people(3, 999, "need 0 of 1 5;need 1 of 2 49;need 1 of 2 50");
        fillWithFavours(z, 99);
        no("none given above 40", z.can(0));
        yes("but paid", z.can(1));
        no("nor paid, as half of 99 is less than 50", z.can(2));
    }

    @Sentence("MET: that is done (the NEED stays).")
    void theNeedStays() {
        FavourTown x = people(2, 10, "need 0 of 1 5");
        due("met", x.meet(0), 0);
        due("met again", x.meet(0), 1);
        due("no third time", x.meet(0), NONE);
        due("the need stays", x.count(5), 1);
        due("debt", x.debt(0), 10);
    }

    @Sentence("FORGIVE: a set of PEOPLE lets all FAVOURS be GONE that they hold.")
    void allThatTheyHold() {
        FavourTown x = people(3, 99, "give 0 to 1 1;give 0 to 1 2;give 0 to 2 4;give 1 to 0 8");
        due("nobody", x.forgive(0), 0);
        due("all there", x.count(4), 4);
        due("both that 1 holds", x.forgive(2), 2);
        due("not what 1 gave", x.look(3, 1), 0);
        due("1 holds none now", x.forgive(2), 0);
        due("all", x.forgive(7), 2);
        due("none left", x.count(4), 0);
        due("none to forgive", x.forgive(7), 0);
        due("debt", x.debt(0) + x.debt(1), 0);
    }

    @Sentence("It is ENOUGH, if then each NEED (by itself) can be MET.")
    void eachNeedByItself() {
        FavourTown x = people(2, 5);
        yes("no needs", x.enough(0));
        Check.town(x, "need 0 of 1 5;need 0 of 1 5");
        yes("each by itself, though not both", x.enough(0));
        due("witness", x.witness(0), NONE);
        x.meet(0);
        no("now", x.enough(0));
        yes("if 1 forgives", x.enough(2));
        no("if 0 forgives", x.enough(1));
        Check.town(x, "need 1 of 0 6");
        no("the last of all", x.enough(2));
        due("that one", x.witness(2), 2);
        FavourTown y = people(4, 8, "give 3 to 0 8 forced;need 0 of 2 4", "law 1");
        has(y, 2, "refuse if again;take if hands>0 and worth>4");
        yes("paid, for it is forced", y.enough(0));
        due("if 0 forgives, 2 takes no gift", y.witness(1), 0);
        due("nobody need forgive", y.fewest(), 0);
        y.pass(0, 2);
        no("it is paid by now", y.enough(0));
    }

    @Sentence("(by itself) can be MET.")
    void metByTheTemperOfB() {
        FavourTown x = people(4, 8, "need 0 of 1 4;need 0 of 2 4;give 1 to 2 8;pass 0 to 3;pass 0 to 0");
        due("both", x.witness(0), NONE);
        has(x, 2, "refuse if again;take");
        due("not the one who held it, but by giving", x.witness(0), NONE);
        Check.town(x, "need 0 of 3 1;need 0 of 2 1");
        has(x, 2, "take if hands>0 and not again");
        due("the one who held it takes it no more", x.witness(0), 1);
        has(x, 3, "take if again and worth+1>1 and hands>2");
        Check.town(x, "need 0 of 3 9");
        due("1 forgiving", x.witness(2), 1);
        x.has(2, NONE);
        due("the last", x.witness(0), 4);
        FavourTown y = people(3, 8, "give 1 to 0 2;need 2 of 0 3");
        has(y, 0, "take if owed<2");
        due("0 is owed too much", y.witness(0), 0);
        due("and less, if 0 forgives", y.witness(1), NONE);
    }

    @Sentence("FEWEST: the least such set: the fewest, of several the least as bits; none.")
    void fewestSets() {
        FavourTown nobody = new FavourTown();
        due("nobody", nobody.fewest(), 0);
        FavourTown x = people(3, 10, "give 0 to 2 5;give 0 to 1 5");
        due("no needs", x.fewest(), 0);
        Check.town(x, "need 0 of 1 5");
        yes("2 alone would do", x.enough(4));
        due("1 is the least as bits", x.fewest(), 2);
        Check.town(x, "need 0 of 1 6");
        due("both", x.fewest(), 6);
        Check.town(x, "need 0 of 1 11");
        due("none", x.fewest(), NONE);
        // 0 owes 3 to each of 1 and 2 and 6 to 3: 3 alone is one, though 1 and 2 are less as bits
        FavourTown y = people(4, 12, "give 0 to 1 3;give 0 to 2 3;give 0 to 3 6;need 0 of 1 6");
        yes("two would do", y.enough(6));
        due("one is fewer", y.fewest(), 8);
        due("nothing is gone", y.count(4), 3);
        FavourTown z = people(12, 99);
        for (int k = 0; k < 11; k++) {
            z.give(11, k, 9, 0, false);
        }
        Check.town(z, "need 11 of 0 99");
        due("all of eleven", z.fewest(), 2047);
        Check.town(z, "give 0 to 11 50;need 0 of 1 50");
        due("all of twelve", z.fewest(), 4095);
    }

    @Sentence("WITNESS: the first NEED that cannot be MET then; none.")
    void theFirstNeedThatCannotBeMet() {
        FavourTown x = people(3, 9);
        due("no needs", x.witness(-1), NONE);
        Check.town(x, "give 0 to 1 9;need 1 of 0 1;need 0 of 1 5;need 0 of 2 10;need 2 of 0 1");
        due("the first", x.witness(0), 1);
        due("the next", x.witness(2), 2);
        due("1 forgiving pays no more, but gives", x.witness(3), 2);
        FavourTown y = people(2, 9, times(11, "need 0 of 1 9") + ";need 0 of 1 10");
        due("the last of 12", y.witness(0), 11);
        FavourTown z = people(2, 9, times(12, "need 0 of 1 9"));
        due("none of 12", z.witness(0), NONE);
        FavourTown full = people(2, 999);
        fillWithFavours(full, 1);
        has(full, 0, "refuse");
        due("no needs, though nobody could give", full.witness(0), NONE);
        Check.town(full, "give 0 to 1 1;call 0");
        yes("no needs are enough", full.enough(2));
        due("nobody need forgive", full.fewest(), 0);
    }

    @Sentence("PORT from one to another: WHOLES (each FAVOUR by itself rounded down)")
    void eachByItselfRoundedDown() {
        FavourTown x = people(4, 999);
        due("nothing held", x.port(1, 2), 0);
        Check.town(x, times(5, "give 0 to 1 1"));
        due("halves are none", x.port(1, 2), 0);
        Check.town(x, "give 0 to 1 2;give 0 to 1 3;give 0 to 1 99");
        due("1 and 1 and 49", x.port(1, 2), 51);
        due("to the giver", x.port(1, 0), 0);
        due("what it gave itself", x.port(0, 2), 0);
        x.pass(7, 2);
        due("24 of 24 and 3 quarters", x.port(2, 3), 24);
    }

    @Sentence("that all FAVOURS held by the first that could be PASSED to the other (who is not its GIVER) would be worth there.")
    void portOfWhatCouldBePassed() {
        FavourTown x = people(4, 999, "give 0 to 1 8;give 2 to 1 20;give 0 to 1 40;give 0 to 3 60");
        due("not what the other gave", x.port(1, 2), 4 + 20);
        due("not what another holds", x.port(1, 3), 4 + 10 + 20);
        has(x, 3, "take if amount<21");
        due("not what is not taken", x.port(1, 3), 4 + 10);
        x.call(0);
        due("not what is gone", x.port(1, 3), 10);
        Check.town(x, "law 1");
        due("one hand is left", x.port(1, 3), 10);
        x.pass(1, 3);
        due("no hand is left", x.port(3, 1), 30);
        Check.town(x, "law 0");
        due("nothing by law 0", x.port(3, 1), 0);
    }

    @Sentence("MOST from one to another: the greatest flow")
    void theGreatestFlow() {
        FavourTown none = people(2, 9);
        due("no ports", none.most(0, 1), 0);
        // all but the giver take all: from 0 to 3 go 5 straight, 3 by 1 and 2 by 2
        FavourTown x = people(5, 999, "give 4 to 0 10;give 4 to 1 6;give 4 to 2 4");
        due("straight and by two others", x.most(0, 3), 10);
        due("all that 1 has, by all it can pay", x.most(1, 3), 9);
        due("to who gave all", x.most(0, 4), 0);
        Check.town(x, "law 0");
        due("no hands", x.most(0, 3), 0);
    }

    @Sentence("no PORT being used for more than it is.")
    void noPortIsUsedForMore() {
        FavourTown row = rowOf12();
        due("along all 12 the least of all ports", row.most(11, 10), 2);
        due("to the one ahead", row.most(11, 9), 3);
        due("of a part of it", row.most(3, 7), 5);
        due("nothing comes back", row.most(10, 11), 0);
        // 11 pays 4, 10 pays 2 and 9 pays 1 to each but who gave
        FavourTown all = people(12, 99, "give 0 to 11 8;give 0 to 10 4;give 11 to 9 2");
        for (int to = 1; to < 9; to++) {
            due("by 10 and by 9 to " + to, all.most(11, to), 4 + 2 + 1);
        }
        due("by 10", all.most(11, 9), 4 + 2);
        due("by 9", all.most(11, 10), 4 + 1);
        due("to the last", all.most(10, 11), 2);
        due("by the last", all.most(10, 9), 2 + 2);
    }

    /** 11 can pay 0 alone by its FAVOUR, 0 can pay 1 alone and so on to 10: PORTS of 12, 11, 10 down to 2. */
    private static FavourTown rowOf12() {
        FavourTown x = people(12, 999);
        for (int person = 0; person < 11; person++) {
            x.give(11, person, 22 - 2 * person, 0, false);
        }
        x.give(10, 11, 24, 0, false);
        int temper = Check.temper(x, "take if amount>owed+1 and amount<owed+3");
        for (int person = 0; person < 12; person++) {
            x.has(person, temper);
        }
        return x;
    }

    @Sentence("CUT: PEOPLE to whom more could still come from the first, if MOST flows in some way")
    void moreCouldStillCome() {
        FavourTown x = people(5, 999, "give 4 to 0 10;give 4 to 1 6;give 4 to 2 4");
        due("3 alone is cut off", x.cut(0, 3), 7);
        due("nobody, as 1 can give no more", x.cut(1, 3), 2);
        due("all but who gave", x.cut(0, 4), 15);
        due("all of 12 but the last", rowOf12().cut(11, 10), 4095 - 1024);
    }

    @Sentence("(they are the same by all)")
    void theSameByAllFlows() {
        // of 5 to each of 1 and 2, and 6 from each to 3, 7 come to 4: by 1, by 2, or by both
        FavourTown x = people(6, 999, "give 5 to 0 10;give 5 to 1 12;give 5 to 2 12;give 5 to 3 14");
        has(x, 1, "take if amount<11");
        x.has(2, 0);
        has(x, 3, "take if amount>11 and amount<13");
        has(x, 4, "take if amount>13");
        has(x, 0, "refuse");
        due("most", x.most(0, 4), 7);
        due("all but the last", x.cut(0, 4), 15);
        Check.town(x, "give 5 to 3 18 forced");
        due("more than comes", x.most(0, 4), 10);
        due("the first alone", x.cut(0, 4), 1);
    }

    @Sentence("as bits, the first too.")
    void theFirstIsOfTheCutToo() {
        FavourTown x = people(4, 999);
        due("no ports", x.cut(2, 0), 4);
        // 1 takes 6 alone and 2 takes 7 alone: both ports are 3, and the first is the one that bars
        Check.town(x, "give 3 to 0 6;give 3 to 1 7");
        has(x, 1, "take if amount<7");
        has(x, 2, "take if amount>6");
        due("most", x.most(0, 2), 3);
        due("the first alone", x.cut(0, 2), 1);
        due("the last of 12", rowOf12().cut(11, 0), 2048);
        due("from who can pay none", rowOf12().cut(10, 11), 1024);
    }

    @Sentence("CHAIN for N: the fewest steps from one to another, each with a PORT of N at least")
    void fewestStepsOfAPort() {
        FavourTown row = rowOf12();
        due("11 steps", row.chain(11, 10, 1, NONE), 11);
        due("by its least port", row.chain(11, 10, 2, NONE), 11);
        due("above its least port", row.chain(11, 10, 3, NONE), NONE);
        for (int k = 0; k < 12; k++) {
            due("person " + k, row.chain(11, 10, 2, k), k == 0 ? 11 : k - 1);
        }
        due("behind", row.chain(11, 10, 2, 12), NONE);
        due("a part of it", row.chain(3, 7, 1, NONE), 4);
        due("straight from the last", people(12, 99, "give 0 to 11 8").chain(11, 10, 4, NONE), 1);
        due("straight to the last", people(12, 99, "give 0 to 10 8").chain(10, 11, 4, 1), 11);
        due("one step by its whole port", row.chain(11, 0, 12, NONE), 1);
        due("one step above it", row.chain(11, 0, 13, NONE), NONE);
        // straight for what is small, round by 1 for what is large
        FavourTown x = people(4, 999, "give 3 to 0 8;give 3 to 0 40;give 3 to 1 42");
        has(x, 2, "take if amount<9 or amount>41");
        due("straight", x.chain(0, 2, 4, NONE), 1);
        due("round", x.chain(0, 2, 5, NONE), 2);
        due("round by", x.chain(0, 2, 5, 1), 1);
    }

    @Sentence("the first such row (by PEOPLE in order).")
    void theFirstChain() {
        // 0 pays 1, 2 and 3, of whom 2 and 3 pay 4, and none pays 4 straight
        FavourTown x = people(6, 999, "give 5 to 0 10;give 5 to 3 20;give 5 to 2 20");
        has(x, 4, "take if amount>15");
        due("2 steps", x.chain(0, 4, 5, NONE), 2);
        due("by 2, ahead of 3", x.chain(0, 4, 5, 1), 2);
        Check.town(x, "give 5 to 1 20");
        due("by 1, ahead of 2", x.chain(0, 4, 5, 1), 1);
        // from 0 to 5 by 1 and 4 or by 2 and 3: the first PERSON that differs tells
        FavourTown y = people(7, 999, "give 6 to 0 2;give 6 to 1 4;give 6 to 2 6;give 6 to 3 8;give 6 to 4 8");
        has(y, 0, "refuse");
        has(y, 1, "take if amount<3");
        has(y, 2, "take if amount<3");
        has(y, 3, "take if amount>5 and amount<7");
        has(y, 4, "take if amount>3 and amount<5");
        has(y, 5, "take if amount>7");
        due("3 steps", y.chain(0, 5, 1, NONE), 3);
        due("1 ahead of 2", y.chain(0, 5, 1, 1), 1);
        due("so 4, though 3 is less", y.chain(0, 5, 1, 2), 4);
        due("the last", y.chain(0, 5, 1, 3), 5);
    }

    @Sentence("OWES: of two: AMOUNTS of FAVOURS given by the first that the second holds.")
    void owesTheAmounts() {
        FavourTown x = people(3, 999);
        due("none", x.owes(0, 1), 0);
        Check.town(x, "give 0 to 1 99;give 0 to 1 1;give 0 to 2 8;give 1 to 0 4");
        due("both", x.owes(0, 1), 100);
        due("the other way", x.owes(1, 0), 4);
        due("of one with itself", x.owes(0, 0), 0);
        x.pass(0, 2);
        due("what is passed on is owed to the next, whole", x.owes(0, 2), 107);
        due("no more to the one before", x.owes(0, 1), 1);
        due("who passed owes nothing by it", x.owes(1, 2), 0);
        x.forgive(4);
        due("gone", x.owes(0, 2), 0);
    }

    @Sentence("RINGS (at most 8, numbered from 0 on)")
    void atMost8Rings() {
        FavourTown x = people(3, 9);
        for (int k = 0; k < 8; k++) {
            due("ring " + k, Check.ring(x, k % 2 == 0 ? "ab" : "abc"), k);
        }
        fails("a 9th", FULL, () -> Check.ring(x, "ab"));
        due("8", x.count(6), 8);
        due("the last place", x.clear(7), 7);
        due("behind it", x.clear(8), NONE);
    }

    @Sentence("rows of 2 to 6 different PEOPLE")
    void ringsOf2To6() {
        FavourTown x = people(12, 9);
        due("2", Check.ring(x, "la"), 0);
        due("6", Check.ring(x, "abcdef"), 1);
        for (String row : new String[] {"", "a", "abcdefg", "aa", "aba", "abcdea", "am", "`a", "Ab", "a b"}) {
            fails("\"" + row + "\"", WRONG, () -> Check.ring(x, row));
        }
        due("two", x.count(6), 2);
    }

    @Sentence("each owing the next, the last the first.")
    void theLastOwesTheFirst() {
        FavourTown x = people(6, 99, "give 0 to 1 9;give 1 to 2 9;give 2 to 3 9;give 3 to 4 9;give 4 to 5 9");
        Check.ring(x, "abcdef");
        Check.ring(x, "abc");
        due("no last one owes its first", x.clear(NONE), 0);
        Check.town(x, "give 5 to 0 2");
        due("the last of 6", x.clear(NONE), 12);
        Check.town(x, "give 2 to 0 3");
        due("and of 3", x.clear(NONE), 12 + 9);
        Check.ring(x, "fedcba");
        due("nobody owes the other way", x.clear(NONE), 12 + 9);
        Check.ring(x, "cab");
        due("the same ring from another begin finds what is left", x.clear(NONE), 12 + 9);
    }

    @Sentence("CLEARED: the least that is OWED in it is taken from all of it (so many times as many as it has PEOPLE)")
    void theLeastOfAllOfIt() {
        FavourTown x = people(6, 99, "give 0 to 1 9;give 1 to 2 4;give 2 to 3 9;give 3 to 4 9;give 4 to 5 9;give 5 to 0 7");
        Check.ring(x, "ab");
        due("one owes nothing", x.clear(NONE), 0);
        Check.ring(x, "abcdef");
        due("6 times the least", x.clear(NONE), 24);
        x.call(1);
        due("one owes nothing any more", x.clear(NONE), 0);
        Check.town(x, "give 1 to 0 5;give 1 to 0 6");
        due("2 times the least", x.clear(NONE), 18);
    }

    @Sentence("one RING behind another, by what is left.")
    void byWhatIsLeft() {
        FavourTown x = people(3, 99, "give 0 to 1 9;give 1 to 0 9");
        Check.ring(x, "ab");
        Check.ring(x, "ab");
        due("the second finds nothing left", x.clear(NONE), 18);
        Check.town(x, "give 0 to 1 3;give 1 to 2 2;give 2 to 0 9");
        Check.ring(x, "abc");
        due("and the third what is left", x.clear(NONE), 24);
        Check.town(x, "call 0;call 2");
        due("nothing", x.clear(NONE), 0);
    }

    @Sentence("BEST ORDER of all RINGS: by which the most is CLEARED together; the first such order. (Nothing stays.)")
    void theFirstBestOrder() {
        FavourTown none = people(2, 9);
        due("no rings", none.clear(NONE), 0);
        due("no first", none.clear(0), NONE);
        FavourTown x = people(8, 99, "give 0 to 1 9;give 1 to 0 9;give 1 to 2 9;give 2 to 3 9;give 3 to 4 9;give 4 to 5 9");
        Check.town(x, "give 5 to 0 9");
        String[] rings = {"gh", "ab", "ab", "ba", "ab", "ba", "ab", "abcdef"};
        for (String ring : rings) {
            Check.ring(x, ring);
        }
        due("the last ring ahead of those that take from it", x.clear(NONE), 54);
        int[] order = {0, 7, 1, 2, 3, 4, 5, 6};
        for (int k = 0; k < 8; k++) {
            due("place " + k, x.clear(k), order[k]);
        }
        due("nothing stays", x.owes(0, 1), 9);
        x.forgive(-1);
        for (int k = 0; k < 8; k++) {
            due("nothing is owed: place " + k, x.clear(k), k);
        }
    }

    @Sentence("LOSS of one by another: what WORTH was more in the other's hand than in that one's")
    void whatWorthWasMore() {
        FavourTown x = people(4, 999);
        due("none", x.loss(1, 0), 0);
        Check.town(x, "give 0 to 1 1;give 0 to 1 99");
        due("a gift is none", x.loss(1, 0), 0);
        int[] losses = {512, 256, 128, 64, 32, 16, 8, 4, 2, 1};
        int of1 = 0;
        int of2 = 0;
        for (int k = 0; k < 10; k++) {
            x.pass(0, 2 - k % 2);
            of2 += k % 2 == 0 ? losses[k] : 0;
            of1 += k % 2 == 0 ? 0 : losses[k];
            due("of 2 by 1", x.loss(2, 1), of2);
            due("of 1 by 2", x.loss(1, 2), of1);
        }
        x.pass(1, 3);
        due("of 3 by 1", x.loss(3, 1), 99 * 512);
        x.pass(1, 2);
        due("of 2 by 3", x.loss(2, 3), 99 * 256);
        due("not of 2 by 1", x.loss(2, 1), of2);
        x.forgive(-1);
        due("though it is gone", x.loss(3, 1), 99 * 512);
        due("by oneself", x.loss(2, 2), 0);
    }

    @Sentence("PASSED to that one (who was not the GIVER).")
    void theGiverHasNoLoss() {
        FavourTown x = people(3, 99, "give 0 to 1 8;give 0 to 2 8;pass 0 to 0;pass 1 to 1;pass 1 to 0");
        due("of the giver by 1", x.loss(0, 1), 0);
        due("of the giver by 2", x.loss(0, 2), 0);
        due("of 1 by 2", x.loss(1, 2), 4096);
        due("ruined", x.ruined(0), NONE);
        Check.town(x, "give 1 to 2 8;pass 2 to 0");
        due("of one who is not its giver", x.loss(0, 2), 4096);
    }

    @Sentence("RUINED by: the one by whom LOSS is the greatest, of several the least; none, if there is no LOSS.")
    void ruinedByTheGreatest() {
        FavourTown x = people(12, 99);
        due("none", x.ruined(0), NONE);
        Check.town(x, "give 1 to 11 8;give 1 to 5 8;give 1 to 4 7");
        due("gifts ruin none", x.ruined(11), NONE);
        x.pass(0, 0);
        due("by the last", x.ruined(0), 11);
        x.pass(1, 0);
        due("of several the least", x.ruined(0), 5);
        x.pass(2, 0);
        due("less is not the greatest", x.ruined(0), 5);
        Check.town(x, "give 1 to 4 1;pass 3 to 0");
        due("of three alike the least", x.ruined(0), 4);
        Check.town(x, "give 1 to 11 1;pass 4 to 0");
        due("more by two", x.ruined(0), 11);
        due("another", x.ruined(5), NONE);
        Check.town(x, "give 1 to 0 1;" + times(4, "pass 5 to 2;pass 5 to 0") + ";pass 5 to 2;pass 5 to 3");
        due("the least loss there is", x.loss(3, 2), 1);
        due("by the least loss there is", x.ruined(3), 2);
        Check.town(x, "give 1 to 0 1;pass 6 to 4");
        due("by the first of all", x.ruined(4), 0);
    }

    @Sentence("HANDS ROW of a FAVOUR: its GIVER, then all who have held it, in order (the GIVER again, if it came home).")
    void theHandsRow() {
        FavourTown x = people(3, 99, "give 2 to 1 8");
        due("shortest", Check.fits(x, 0, "cb"), NONE);
        Check.town(x, times(4, "pass 0 to 0;pass 0 to 1") + ";pass 0 to 0");
        due("ahead of its last hand", Check.fits(x, 0, "cbababababa"), NONE);
        x.pass(0, 2);
        due("longest, and home", Check.fits(x, 0, "cbababababac"), NONE);
        Check.town(x, "give 2 to 1 8;call 1");
        due("called in: nobody more", Check.fits(x, 1, "cb"), NONE);
    }

    private int draw() {
        seed = (1103515245L * seed + 12345) & 0xFFFFFFFFL;
        return (int) (seed / 65536 % 32768);
    }

    /** Plays by calls on the town itself: how many were met by passing, by giving, and not. */
    private int[] playByCalls(FavourTown x, int firstSeed, int days) {
        seed = firstSeed;
        int[] met = new int[3];
        int people = x.count(0);
        for (int day = 0; day < days; day++) {
            for (int person = 0; person < people; person++) {
                int of = draw() % people;
                if (of != person) {
                    int wholes = draw() % 9 + 1;
                    int favour = x.pays(person, of, wholes);
                    boolean paid = favour != NONE && x.pass(favour, of) > 0;
                    met[paid ? 0 : x.give(person, of, wholes, 0, false) != NONE ? 1 : 2]++;
                }
            }
            x.days(1);
        }
        return met;
    }

    private void playsAsByCalls(FavourTown x, int firstSeed, int days) {
        int[] answers = new int[6];
        for (int what = 0; what < 6; what++) {
            answers[what] = x.play(firstSeed, days, what);
        }
        x.image();
        int[] met = playByCalls(x, firstSeed, days);
        int rich = 0;
        int richest = NONE;
        for (int person = 0; person < x.count(0); person++) {
            rich += x.rich(person);
            richest = richest == NONE || x.rich(person) > x.rich(richest) ? person : richest;
        }
        int[] wants = {met[0], met[1], met[2], x.count(4), rich, richest};
        x.back();
        for (int what = 0; what < 6; what++) {
            due("seed " + firstSeed + ", days " + days + ", what " + what, answers[what], wants[what]);
        }
    }

    @Sentence("PLAYED by a SEED, so many DAYS (0 to 60): each DAY, of each PERSON in order")
    void playedFor0To60Days() {
        FavourTown x = people(2, 300, "give 0 to 1 9 for 30;give 0 to 1 9 for 1");
        for (int days : new int[] {0, 1, 2, 59, 60}) {
            playsAsByCalls(people(2, 300, "give 0 to 1 9 for 30;give 0 to 1 9 for 1"), 77, days);
        }
        due("none met in 0 days", x.play(77, 0, 0) + x.play(77, 0, 1) + x.play(77, 0, 2), 0);
        due("as it is", x.play(77, 0, 3), 2);
        fails("61 days", WRONG, () -> x.play(77, 61, 0));
        fails("days below 0", WRONG, () -> x.play(77, -1, 0));
    }

    @Sentence("SEED is 1103515245 times SEED and 12345, as an int that goes round; bits 16 to 30")
    void theSeedGoesRound() {
        int[] seeds = {0, 1, -1, 2, 12345, 65536, 1 << 30, Integer.MAX_VALUE, Integer.MIN_VALUE, -12345, 987654321, 0x80008000};
        for (int first : seeds) {
            playsAsByCalls(people(3, 60), first, 6);
        }
    }

    @Sentence("one modulo the number of PEOPLE: of whom; if it is another one")
    void ofWhomByTheNumberOfPeople() {
        FavourTown nobody = new FavourTown();
        due("nobody asks", nobody.play(1, 60, 0) + nobody.play(1, 60, 1) + nobody.play(1, 60, 2), 0);
        FavourTown one = people(1, 99);
        due("one alone has no other", one.play(1, 60, 0) + one.play(1, 60, 1) + one.play(1, 60, 2), 0);
        playsAsByCalls(people(2, 99), 5, 9);
        playsAsByCalls(people(7, 99), 5, 4);
        playsAsByCalls(people(12, 99), 5, 4);
    }

    @Sentence("one modulo 9, and 1: how many WHOLES")
    void from1To9Wholes() {
        FavourTown least = people(2, 1);
        FavourTown most = people(2, 9);
        // at LIMIT 1 those alone are met that are of 1 WHOLE, at LIMIT 9 all
        int met = 0;
        for (int first = 0; first < 100; first++) {
            seed = first;
            int of = draw() % 2;
            int wholes = of == 1 ? draw() % 9 + 1 : 0;
            boolean second = draw() % 2 == 0;
            int others = second ? draw() % 9 + 1 : 0;
            met += least.play(first, 1, 1);
            due("LIMIT 1, seed " + first, least.play(first, 1, 1), bit(wholes == 1) + bit(others == 1));
            due("LIMIT 9, seed " + first, most.play(first, 1, 2), 0);
        }
        yes("some of 1 were asked for", met > 0);
    }

    @Sentence("it is MET as a NEED, if it can be.")
    void playedByTempersToo() {
        String[] tempers = {"take if again", "take if near or hands>0 and worth>3", "take if owed<9", "take if debt<5+hands",
            "refuse if timed;take if left>5 and worth+1>amount", "refuse"};
        for (int first = 0; first < 30; first++) {
            FavourTown x = people(4, 40, "near 0 1;near 2 3;give 0 to 1 18 for 2;give 1 to 2 18 forced;give 2 to 3 18 for 9 forced");
            Check.town(x, "give 3 to 0 18;pass 3 to 1;pass 3 to 2;give 3 to 1 20;law " + first % 4);
            for (int person = 0; person < 4; person++) {
                has(x, person, tempers[(first + person * 5) % 6]);
            }
            playsAsByCalls(x, first * 7919, 5);
        }
    }

    @Sentence("Behind all it is a DAY more. (Nothing stays.)")
    void aDayMoreBehindAll() {
        FavourTown x = people(2, 0, "days 5;give 0 to 1 1 for 9", "person 99;give 2 to 0 8 for 1;give 2 to 1 6 for 2");
        String before = seen(x);
        due("at once", x.play(1, 0, 3), 2);
        due("one day", x.play(3, 1, 3) - x.play(3, 1, 1), 1);
        due("two days", x.play(3, 2, 3) - x.play(3, 2, 1), 0);
        // on its last day the favour still pays: seed by seed as by calls, with favours that end on each day
        for (int first = 0; first < 12; first++) {
            playsAsByCalls(people(3, 20, "give 0 to 1 18 for 1;give 1 to 2 18 for 2;give 2 to 0 18 for 3"), first, 3);
        }
        due("nothing stays", bit(seen(x).equals(before)), 1);
        due("DAY", x.count(7), 5);
    }

    @Sentence("THE IMAGE (one) of all may be kept, and gone back to (but for the TAPE, fault() and THE IMAGE itself).")
    void theImageIsOfAll() {
        FavourTown x = people(3, 99, "near 0 1;law 4;give 0 to 1 8 for 9;give 1 to 2 8;pass 1 to 0;need 0 of 1 3;days 2");
        has(x, 1, "take if near");
        Check.ring(x, "ab");
        String before = seen(x);
        x.image();
        Check.town(x, "person 9;near 1 2;law 9;give 0 to 1 3;pass 0 to 2;call 1;need 1 of 0 99;days 50");
        has(x, 1, "refuse");
        Check.ring(x, "bc");
        Check.write(x, "person 9");
        no("another town", seen(x).equals(before));
        check.fails("a wrong text", WRONG, () -> Check.temper(x, "take;  x"));
        Check.write(x, "person 9");
        yes("back", x.back());
        due("all as it was: " + seen(x), bit(seen(x).equals(before)), 1);
        due("its temper", x.has(1, 0), 0);
        due("fault() stays", x.fault(), 7);
        yes("the TAPE stays", x.end(8));
        due("the next text", x.town(), 3);
        yes("THE IMAGE stays", x.back());
        due("once more: " + seen(x), bit(seen(x).equals(before)), 1);
        x.call(0);
        x.image();
        String later = seen(x);
        x.call(1);
        x.back();
        due("one alone: " + seen(x), bit(seen(x).equals(later)), 1);
    }

    @Sentence("may be kept, and gone back to")
    void nobodyOfLaterIsLeft() {
        // 0 pays 3 alone, who takes what is small, and 3 pays 2, who takes what is large
        FavourTown x = people(3, 99, "give 1 to 0 8");
        has(x, 2, "take if amount>20");
        x.image();
        Check.town(x, "person 9;give 1 to 3 40");
        due("as much as comes to 3", x.most(0, 2), 4);
        due("cut", x.cut(0, 2), 1);
        due("by 3", x.chain(0, 2, 4, NONE), 2);
        x.back();
        due("no 3 any more", x.chain(0, 2, 4, NONE), NONE);
        due("nobody on it", x.chain(0, 2, 4, 1), NONE);
        due("no flow", x.most(0, 2), 0);
        due("1 gave it, and 2 does not take it", x.cut(0, 2), 1);
        Check.town(x, "person 9");
        due("the next one is another", x.rich(3), 0);
        due("by whom nothing goes", x.chain(0, 2, 4, NONE), NONE);
    }

    @Sentence("Of several exceptions the one told first is thrown")
    void theFirstOfSeveralExceptions() {
        FavourTown x = people(2, 99, "give 0 to 1 8");
        for (int k = x.count(1); k < 10; k++) {
            Check.town(x, "");
        }
        for (int k = 0; k < 6; k++) {
            Check.temper(x, "");
        }
        for (int k = 0; k < 8; k++) {
            Check.ring(x, "ab");
        }
        fails("town: wrong and 10", WRONG, () -> Check.town(x, "x"));
        fails("temper: wrong and 6", WRONG, () -> Check.temper(x, "x"));
        fails("ring: none and 8", WRONG, () -> Check.ring(x, "aa"));
        fails("give: nobody and both one", NOBODY, () -> x.give(2, 2, 1, 0, false));
        fails("give: nobody and no amount", NOBODY, () -> x.give(0, -1, 0, 0, false));
        fails("give: nobody and no days", NOBODY, () -> x.give(-1, 0, 1, 100, false));
        fails("pass: no favour and nobody", NOBODY, () -> x.pass(1, 2));
        fails("pass: gone is NONE, the holder", NOBODY, () -> x.pass(0, NONE));
        fails("look: no favour and another what", NOBODY, () -> x.look(1, 7));
        fails("pays: nobody and both one", NOBODY, () -> x.pays(2, 2, 0));
        fails("port: nobody and both one", NOBODY, () -> x.port(2, 2));
        fails("most: nobody and both one", NOBODY, () -> x.most(-1, -1));
        fails("cut: nobody and both one", NOBODY, () -> x.cut(2, 2));
        fails("chain: nobody and all else", NOBODY, () -> x.chain(2, 2, 0, -2));
        fails("play: no days and another what", WRONG, () -> x.play(1, 61, 6));
    }

    @Sentence("a call that throws changes nothing but the TAPE, where it is used up, and fault(), where a text is read (also by one that is refused)")
    void whatThrowsChangesNothing() {
        FavourTown x = filled();
        String before = seen(x);
        On[] calls = {y -> y.has(0, 6), y -> y.has(3, 0), y -> y.give(0, 0, 1, 0, true), y -> y.give(0, 1, 0, 0, true),
            y -> y.give(0, 1, 1, -1, true), y -> y.pass(0, 1), y -> y.pass(0, 3), y -> y.pass(2, 0), y -> y.call(2),
            y -> y.days(0), y -> y.days(100), y -> y.look(0, 7), y -> y.meet(1), y -> y.play(1, 61, 0), y -> y.chain(0, 1, 1, -2)};
        for (int k = 0; k < calls.length; k++) {
            On call = calls[k];
            Check.write(x, "abc");
            yes("call " + k + " throws", Check.answer(() -> call.run(x)).startsWith("throws"));
            yes("the TAPE stands", x.end(3));
            due("fault() stands", x.fault(), 2);
        }
        due("all as it was: " + seen(x), bit(seen(x).equals(before)), 1);
        whatUsesTheTapeUp(x, before);
    }

    /** A town in which each text is one too many, its fault() 2. */
    private FavourTown filled() {
        FavourTown x = people(3, 9, "give 0 to 1 8;give 1 to 0 8 for 9;need 0 of 1 1", "days 1");
        for (int k = x.count(1); k < 10; k++) {
            Check.town(x, "");
        }
        for (int k = 0; k < 6; k++) {
            Check.temper(x, "");
        }
        for (int k = 0; k < 8; k++) {
            Check.ring(x, "ab");
        }
        check.wrongTown(x, "  x", 2);
        return x;
    }

    private void whatUsesTheTapeUp(FavourTown x, String before) {
        On[] calls = {y -> y.ring(), y -> y.fits(2), y -> y.town(), y -> y.temper()};
        String[] tapes = {"ab", "ab", "person 9;days 9", "take"};
        String[] wrongs = {"aa", "zz", "person 9;days 0", "take;x"};
        int[] faults = {2, 2, NONE, NONE};
        int[] wrongFaults = {2, 2, 14, 5};
        for (int k = 0; k < calls.length; k++) {
            On call = calls[k];
            check.wrongTown(x, "  x", 2);
            Check.write(x, tapes[k]);
            yes("full: call " + k + " throws", Check.answer(() -> call.run(x)).startsWith("throws"));
            yes("the TAPE is used up", tapeIsEmpty(x));
            due("fault(), full", x.fault(), faults[k]);
            check.wrongTown(x, "  x", 2);
            Check.write(x, wrongs[k]);
            yes("wrong: call " + k + " throws", Check.answer(() -> call.run(x)).startsWith("throws"));
            yes("the TAPE is used up", tapeIsEmpty(x));
            due("fault(), wrong", x.fault(), wrongFaults[k]);
        }
        due("all as it was behind texts: " + seen(x), bit(seen(x).equals(before)), 1);
    }

    @Sentence("IndexOutOfBoundsException: there is no such PERSON, FAVOUR, TEMPER, NEED.")
    void noSuchOne() {
        FavourTown x = people(2, 99, "give 0 to 1 8;need 0 of 1 1");
        Check.temper(x, "take");
        int[] none = {Integer.MIN_VALUE, -2, -1, 2, 12, 40, Integer.MAX_VALUE};
        for (int k : none) {
            fails("person " + k, NOBODY, () -> x.rich(k));
            fails("favour " + k, NOBODY, () -> x.call(k));
            fails("need " + k, NOBODY, () -> x.meet(k));
            if (k != NONE) {
                fails("temper " + k, NOBODY, () -> x.has(0, k));
            }
        }
        fails("favour 1", NOBODY, () -> x.call(1));
        fails("need 1", NOBODY, () -> x.meet(1));
        fails("temper 1", NOBODY, () -> x.has(0, 1));
    }
}
