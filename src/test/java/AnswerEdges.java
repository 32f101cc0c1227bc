/** Promises 21 to 37, call by call. */
final class AnswerEdges extends Edges {
    /** What two calls on PEOPLE share: nobody for either. */
    private void nobodyOfTwo(FavourTown x, Two call) {
        int people = x.count(0);
        fails("first behind", NOBODY, () -> call.of(people, 0));
        fails("first below", NOBODY, () -> call.of(-1, 0));
        fails("second behind", NOBODY, () -> call.of(0, people));
        fails("second below", NOBODY, () -> call.of(0, -1));
    }

    private interface Two {
        long of(int first, int second);
    }

    /** 0 owes 9 to each of 1, 2 and 3, and needs to give 1 another 18. */
    private static FavourTown owing() {
        return people(4, 27, "give 0 to 1 9;give 0 to 2 9;give 0 to 3 9;need 0 of 1 18");
    }

    @Sentence(promise = 21, value = "Whether a set (bits of nobody count for nothing)")
    void bitsOfNobodyForEnough() {
        FavourTown x = owing();
        no("nobody there", x.enough(-16));
        no("12 and above", x.enough(0xFFFFF000));
        yes("two and nobody", x.enough(6 | 16));
        yes("two and the highest bit", x.enough(Integer.MIN_VALUE | 6));
        yes("all bits", x.enough(-1));
        FavourTown none = new FavourTown();
        yes("all bits of nobody", none.enough(-1));
    }

    @Sentence(promise = 21, value = "that FORGIVES is ENOUGH.")
    void enoughOfASet() {
        FavourTown x = owing();
        int[] sets = {0, 1, 2, 4, 8, 3, 6, 10, 12, 14, 15};
        for (int set : sets) {
            due("set " + set, bit(x.enough(set)), bit(Integer.bitCount(set & 14) >= 2));
        }
        due("nothing stays", x.count(4), 3);
        due("debt", x.debt(0), 27);
    }

    @Sentence(promise = 22, value = "WITNESS; NONE.")
    void witnessOfASet() {
        FavourTown x = owing();
        due("none forgives", x.witness(0), 0);
        due("one", x.witness(2), 0);
        due("two", x.witness(12), NONE);
        due("bits of nobody", x.witness(-16), 0);
        due("all bits", x.witness(-1), NONE);
        Check.town(x, "need 0 of 1 27;need 0 of 1 28");
        due("the second", x.witness(6), 1);
        due("the third", x.witness(-1), 2);
        due("nothing stays", x.count(4), 3);
    }

    @Sentence(promise = 23, value = "FEWEST, as bits; NONE.")
    void fewestAsBits() {
        FavourTown x = owing();
        due("1 and 2", x.fewest(), 6);
        Check.town(x, "need 0 of 1 27");
        due("all three", x.fewest(), 14);
        Check.town(x, "need 0 of 1 28");
        due("none", x.fewest(), NONE);
        due("nothing stays", x.count(4), 3);
        FavourTown y = people(2, 9, "give 0 to 1 4;need 0 of 1 5");
        due("nobody", y.fewest(), 0);
    }

    @Sentence(promise = 24, value = "A set FORGIVES: how many FAVOURS are GONE by it.")
    void howManyAreForgiven() {
        FavourTown x = owing();
        due("nobody", x.forgive(0), 0);
        due("who holds none", x.forgive(1), 0);
        due("bits of nobody", x.forgive(-16), 0);
        due("the highest bit", x.forgive(Integer.MIN_VALUE), 0);
        due("left", x.count(4), 3);
        due("one", x.forgive(4), 1);
        due("that one", x.look(1, 1), NONE);
        due("again", x.forgive(4), 0);
        due("the others", x.forgive(-1), 2);
        due("debt", x.debt(0), 0);
        FavourTown y = people(2, 999);
        fillWithFavours(y, 1);
        due("all 40", y.forgive(2), 40);
        due("rich", y.rich(1), 0);
    }

    @Sentence(promise = 25, value = "PORT. IllegalArgumentException: both are one.")
    void portOfTwo() {
        FavourTown x = people(3, 999);
        due("nothing", x.port(1, 2), 0);
        fillWithFavours(x, 99);
        due("49 and a half, and 39 halves", x.port(1, 2), 49);
        due("to the giver", x.port(1, 0), 0);
        fails("both one", WRONG, () -> x.port(1, 1));
        fails("both one, who holds none", WRONG, () -> x.port(2, 2));
    }

    @Sentence(promise = 25, value = "throws IndexOutOfBoundsException")
    void portOfNobody() {
        FavourTown x = people(2, 9);
        nobodyOfTwo(x, (a, b) -> x.port(a, b));
    }

    @Sentence(promise = 26, value = "MOST. IllegalArgumentException: both are one.")
    void mostOfTwo() {
        FavourTown x = people(4, 999, "give 3 to 0 8;give 3 to 1 4");
        due("straight and by 1", x.most(0, 2), 4 + 2);
        due("straight and by 0, as much as 1 has for it", x.most(1, 2), 2 + 2);
        due("none", x.most(2, 0), 0);
        due("nothing stays", x.port(0, 2), 4);
        due("once more", x.most(0, 2), 6);
        fails("both one", WRONG, () -> x.most(2, 2));
    }

    @Sentence(promise = 26, value = "throws IndexOutOfBoundsException")
    void mostOfNobody() {
        FavourTown x = people(2, 9);
        nobodyOfTwo(x, (a, b) -> x.most(a, b));
    }

    @Sentence(promise = 27, value = "CUT. IllegalArgumentException: both are one.")
    void cutOfTwo() {
        FavourTown x = people(4, 999, "give 3 to 0 8;give 3 to 1 4");
        due("0 and 1", x.cut(0, 2), 3);
        due("all but the giver", x.cut(0, 3), 7);
        due("of who has nothing", x.cut(2, 0), 4);
        due("once more", x.cut(0, 2), 3);
        fails("both one", WRONG, () -> x.cut(2, 2));
    }

    @Sentence(promise = 27, value = "throws IndexOutOfBoundsException")
    void cutOfNobody() {
        FavourTown x = people(2, 9);
        nobodyOfTwo(x, (a, b) -> x.cut(a, b));
    }

    /** 0 can pay 1 and 2, and these can pay 3, who takes what is above 15 alone: PORTS of 5, and of 10 to 3. */
    private static FavourTown chained() {
        FavourTown x = people(5, 999, "give 4 to 0 10;give 4 to 1 20;give 4 to 2 20");
        has(x, 3, "take if amount>15");
        return x;
    }

    @Sentence(promise = 28, value = "CHAIN: how many steps (k NONE)")
    void stepsOfAChain() {
        FavourTown x = chained();
        due("two", x.chain(0, 3, 1, NONE), 2);
        due("at its port", x.chain(0, 3, 5, NONE), 2);
        due("one", x.chain(0, 2, 5, NONE), 1);
        due("one at its port", x.chain(1, 3, 10, NONE), 1);
        due("a flow", x.most(0, 3), 10);
        due("takes nothing of it", x.chain(0, 3, 5, NONE), 2);
    }

    @Sentence(promise = 28, value = "or the k-th PERSON of it (0 the first; NONE behind)")
    void personsOfAChain() {
        FavourTown x = chained();
        int[] row = {0, 1, 3, NONE, NONE};
        for (int k = 0; k < row.length; k++) {
            due("person " + k, x.chain(0, 3, 5, k), row[k]);
        }
        due("far behind", x.chain(0, 3, 5, Integer.MAX_VALUE), NONE);
        due("the first of one step", x.chain(2, 3, 5, 0), 2);
        due("the last of one step", x.chain(2, 3, 5, 1), 3);
        due("behind one step", x.chain(2, 3, 5, 2), NONE);
    }

    @Sentence(promise = 28, value = "NONE without.")
    void noChain() {
        FavourTown x = chained();
        due("above its port", x.chain(0, 3, 6, NONE), NONE);
        for (int k = 0; k < 4; k++) {
            due("nobody is on it: " + k, x.chain(0, 3, 6, k), NONE);
        }
        due("back", x.chain(3, 0, 1, NONE), NONE);
        due("to the giver of all", x.chain(0, 4, 1, NONE), NONE);
        due("from who holds none", x.chain(4, 0, 1, 0), NONE);
        Check.town(x, "law 0");
        due("no hands", x.chain(1, 3, 1, NONE), NONE);
    }

    @Sentence(promise = 28, value = "IllegalArgumentException: both are one")
    void chainToOneself() {
        FavourTown x = chained();
        fails("both one", WRONG, () -> x.chain(0, 0, 1, NONE));
        fails("both one, the first of it", WRONG, () -> x.chain(0, 0, 1, 0));
    }

    @Sentence(promise = 28, value = "N is not 1 to 99")
    void chainFor1To99() {
        FavourTown x = people(3, 999, "give 0 to 1 99;give 0 to 1 99;give 0 to 1 2");
        for (int n : new int[] {Integer.MIN_VALUE, -1, 0, 100, Integer.MAX_VALUE}) {
            fails("n " + n, WRONG, () -> x.chain(1, 2, n, NONE));
        }
        due("99 of 49 and 49 and 1", x.chain(1, 2, 99, NONE), 1);
        due("1", x.chain(1, 2, 1, NONE), 1);
        x.call(2);
        due("99 of 98", x.chain(1, 2, 99, NONE), NONE);
    }

    @Sentence(promise = 28, value = "or k is below NONE.")
    void chainBelowNone() {
        FavourTown x = chained();
        fails("k -2", WRONG, () -> x.chain(0, 3, 1, -2));
        fails("k far below", WRONG, () -> x.chain(0, 3, 1, Integer.MIN_VALUE));
        due("k NONE", x.chain(0, 3, 1, -1), 2);
    }

    @Sentence(promise = 28, value = "throws IndexOutOfBoundsException")
    void chainOfNobody() {
        FavourTown x = people(2, 9);
        nobodyOfTwo(x, (a, b) -> x.chain(a, b, 1, NONE));
        nobodyOfTwo(x, (a, b) -> x.chain(a, b, 1, 0));
    }

    @Sentence(promise = 29, value = "Uses the TAPE up")
    void ringUsesTheTapeUp() {
        FavourTown x = people(2, 9);
        Check.ring(x, "ab");
        yes("by a ring", tapeIsEmpty(x));
        fails("none", WRONG, () -> Check.ring(x, "abc"));
        yes("by none", tapeIsEmpty(x));
        fails("an empty one", WRONG, () -> x.ring());
    }

    @Sentence(promise = 29, value = "of each PERSON a byte: 97 and the number; whether they owe is not asked then")
    void lettersOfARing() {
        FavourTown x = people(12, 99);
        due("the first and the last", Check.ring(x, "al"), 0);
        due("nothing is owed", x.clear(NONE), 0);
        Check.town(x, "give 0 to 11 7;give 11 to 0 9");
        due("owed since", x.clear(NONE), 14);
        due("the last to the first", Check.ring(x, "lkjihg"), 1);
        FavourTown y = people(2, 9);
        fails("behind them", WRONG, () -> Check.ring(y, "ac"));
        fails("ahead of them", WRONG, () -> Check.ring(y, "a`"));
        fails("of the highest byte", WRONG, () -> Check.ring(y, "a\u00e1"));
    }

    @Sentence(promise = 29, value = "its number.")
    void theNumberOfARing() {
        FavourTown x = people(3, 9);
        String[] rows = {"ab", "bc", "ca", "abc", "ab", "cab", "ba", "cb"};
        for (int k = 0; k < rows.length; k++) {
            due("ring " + k, Check.ring(x, rows[k]), k);
            fails("one that is none", WRONG, () -> Check.ring(x, "a"));
        }
    }

    @Sentence(promise = 29, value = "IllegalArgumentException: it is none")
    void noRing() {
        FavourTown x = people(8, 9);
        for (String row : new String[] {"", "a", "aa", "abca", "abcdefg", "abcdefa", "ai", "iab", "a;b", "AB", " ab", "ab "}) {
            fails("\"" + row + "\"", WRONG, () -> Check.ring(x, row));
        }
        due("none", x.count(6), 0);
        due("6", Check.ring(x, "hgfedc"), 0);
        due("2", Check.ring(x, "ha"), 1);
    }

    @Sentence(promise = 29, value = "UnsupportedOperationException: there are 8.")
    void eightRings() {
        FavourTown x = people(2, 9);
        for (int k = 0; k < 7; k++) {
            Check.ring(x, "ab");
        }
        due("the 8th", Check.ring(x, "ba"), 7);
        fails("a 9th", FULL, () -> Check.ring(x, "ab"));
        fails("a 9th that is none", WRONG, () -> Check.ring(x, "ac"));
        due("8", x.count(6), 8);
    }

    @Sentence(promise = 30, value = "how much is CLEARED (k NONE)")
    void howMuchIsCleared() {
        FavourTown x = people(3, 999, "give 0 to 1 5;give 1 to 0 3;give 1 to 2 4;give 2 to 0 4");
        due("no rings", x.clear(NONE), 0);
        Check.ring(x, "ab");
        due("twice 3", x.clear(NONE), 6);
        Check.ring(x, "abc");
        due("4 thrice, and 1 twice, rather than 3 twice and 2 thrice", x.clear(NONE), 14);
        fillWithFavours(x, 1);
        due("by a larger debt, both whole", x.clear(NONE), 18);
    }

    @Sentence(promise = 30, value = "or its k-th RING (NONE behind).")
    void ringsOfTheBestOrder() {
        FavourTown x = people(3, 99, "give 0 to 1 5;give 1 to 0 3;give 1 to 2 4;give 2 to 0 4");
        due("no first", x.clear(0), NONE);
        Check.ring(x, "ab");
        due("one", x.clear(0), 0);
        due("behind one", x.clear(1), NONE);
        Check.ring(x, "abc");
        due("the better first", x.clear(0), 1);
        due("the other", x.clear(1), 0);
        due("behind two", x.clear(2), NONE);
        due("behind all there may be", x.clear(8), NONE);
        due("far behind", x.clear(Integer.MAX_VALUE), NONE);
    }

    @Sentence(promise = 30, value = "IllegalArgumentException: k is below NONE.")
    void clearBelowNone() {
        FavourTown x = people(2, 9);
        fails("k -2", WRONG, () -> x.clear(-2));
        fails("k far below", WRONG, () -> x.clear(Integer.MIN_VALUE));
        Check.ring(x, "ab");
        fails("k -2 with a ring", WRONG, () -> x.clear(-2));
        due("k NONE", x.clear(-1), 0);
    }

    @Sentence(promise = 31, value = "LOSS.")
    void lossOfOne() {
        FavourTown x = people(3, 999, "give 0 to 1 99;pass 0 to 2;give 0 to 1 1;pass 1 to 2");
        due("of two favours", x.loss(2, 1), 100 * 512);
        due("not the other way", x.loss(1, 2), 0);
        due("not by the giver", x.loss(2, 0), 0);
        due("not of oneself", x.loss(2, 2), 0);
        x.pass(0, 1);
        x.pass(0, 2);
        due("a second time by the same", x.loss(2, 1), 100 * 512 + 99 * 128);
        due("back", x.loss(1, 2), 99 * 256);
    }

    @Sentence(promise = 31, value = "throws IndexOutOfBoundsException")
    void lossOfNobody() {
        FavourTown x = people(2, 9);
        nobodyOfTwo(x, (a, b) -> x.loss(a, b));
    }

    @Sentence(promise = 32, value = "RUINED by; NONE.")
    void ruinedBy() {
        FavourTown x = people(4, 99, "give 0 to 1 8");
        due("none", x.ruined(1), NONE);
        x.pass(0, 2);
        due("by 1", x.ruined(2), 1);
        x.pass(0, 3);
        due("by 2", x.ruined(3), 2);
        x.pass(0, 2);
        due("by 1 still", x.ruined(2), 1);
        x.pass(0, 0);
        due("not the giver", x.ruined(0), NONE);
    }

    @Sentence(promise = 32, value = "throws IndexOutOfBoundsException")
    void ruinedNobody() {
        FavourTown x = people(12, 9);
        due("the last", x.ruined(11), NONE);
        fails("behind", NOBODY, () -> x.ruined(12));
        fails("below", NOBODY, () -> x.ruined(-1));
    }

    @Sentence(promise = 33, value = "Uses the TAPE up")
    void fitsUsesTheTapeUp() {
        FavourTown x = people(2, 99, "give 0 to 1 8");
        due("fits", Check.fits(x, 0, "ab"), NONE);
        yes("by what fits", tapeIsEmpty(x));
        due("fits not", Check.fits(x, 0, "ba"), 0);
        yes("by what does not", tapeIsEmpty(x));
        fails("no favour", NOBODY, () -> Check.fits(x, 1, "ab"));
        yes("by what throws", tapeIsEmpty(x));
    }

    @Sentence(promise = 33, value = "the first place at which it is not HANDS ROW")
    void theFirstPlaceThatDiffers() {
        FavourTown x = people(12, 99, "give 11 to 0 8;pass 0 to 10;pass 0 to 0");
        due("the first", Check.fits(x, 0, "kaka"), 0);
        due("the second", Check.fits(x, 0, "lkka"), 1);
        due("the last", Check.fits(x, 0, "lakl"), 3);
        due("the first of two", Check.fits(x, 0, "lbkb"), 1);
        due("a byte that tells nobody", Check.fits(x, 0, "la\u00ffa"), 2);
        due("a byte of 0", Check.fits(x, 0, "\u0000aka"), 0);
        due("a great letter", Check.fits(x, 0, "lAka"), 1);
    }

    @Sentence(promise = 33, value = "(also if one is longer)")
    void ifOneIsLonger() {
        FavourTown x = people(3, 99, "give 0 to 1 8");
        due("nothing on the TAPE", Check.fits(x, 0, ""), 0);
        due("shorter", Check.fits(x, 0, "a"), 1);
        due("longer", Check.fits(x, 0, "abc"), 2);
        due("longer by a byte that is nobody's", Check.fits(x, 0, "ab`"), 2);
        due("longer, and another ahead", Check.fits(x, 0, "acb"), 1);
        due("the longest TAPE", Check.fits(x, 0, "ab" + "a".repeat(398)), 2);
        Check.town(x, times(5, "pass 0 to 2;pass 0 to 1"));
        due("shorter than the longest row", Check.fits(x, 0, "abcbcbcbcbc"), 11);
        due("longer than the longest row", Check.fits(x, 0, "abcbcbcbcbcbc"), 12);
        due("longer by what would not differ", Check.fits(x, 0, "abcbcbcbcbcb`"), 12);
    }

    @Sentence(promise = 33, value = "NONE if it is.")
    void fitsItself() {
        FavourTown x = people(12, 99, "give 11 to 0 8;give 0 to 11 8");
        due("the first", Check.fits(x, 0, "la"), NONE);
        due("the second", Check.fits(x, 1, "al"), NONE);
        Check.town(x, "pass 0 to 11;call 1");
        due("come home", Check.fits(x, 0, "lal"), NONE);
        due("called in", Check.fits(x, 1, "al"), NONE);
        Check.town(x, "give 1 to 2 9;" + times(5, "pass 2 to 3;pass 2 to 2"));
        due("the longest", Check.fits(x, 2, "bcdcdcdcdcdc"), NONE);
    }

    @Sentence(promise = 33, value = "throws IndexOutOfBoundsException")
    void fitsNoSuchOne() {
        FavourTown x = people(2, 9);
        fails("no favours", NOBODY, () -> Check.fits(x, 0, ""));
        x.give(0, 1, 1, 0, false);
        fails("behind", NOBODY, () -> Check.fits(x, 1, "ab"));
        fails("below", NOBODY, () -> Check.fits(x, -1, "ab"));
    }

    /*
     * By seed 1, as it goes round, the draws are 16838, 5758, 10113, 17515, 31051, 5627, 23010 ..: of three PEOPLE 0 asks
     * 2 (16838 % 3) for 8 (5758 % 9, and 1); 1 asks 0 (10113 % 3) for 2 (17515 % 9, and 1); 2 asks 1 (31051 % 3) for 3
     * (5627 % 9, and 1).
     */
    private static final int SEED = 1;

    @Sentence(promise = 34, value = "what 0 how many were MET by passing")
    void metByPassing() {
        FavourTown x = paying();
        due("0 pays 2, 2 pays not 1, who gave", x.play(SEED, 1, 0), 1);
        due("in no days", x.play(SEED, 0, 0), 0);
        // 2 pays 1 by the 8 of 0 that it was given on the same day
        due("by what was given today", people(3, 20).play(SEED, 1, 0), 1);
        due("none", people(3, 0).play(SEED, 60, 0), 0);
    }

    /** 0 can pay 2 for 8, 1 owes all that it may, and 2 holds what 1 gave. */
    private static FavourTown paying() {
        return people(3, 22, "give 0 to 1 6;give 1 to 2 6;give 1 to 0 16");
    }

    @Sentence(promise = 34, value = "1 by giving")
    void metByGiving() {
        due("2 alone", paying().play(SEED, 1, 1), 1);
        due("in no days", paying().play(SEED, 0, 1), 0);
        due("0 and 1", people(3, 20).play(SEED, 1, 1), 2);
        due("none", people(3, 0).play(SEED, 60, 1), 0);
    }

    @Sentence(promise = 34, value = "2 could not be MET")
    void couldNotBeMet() {
        due("1, above its LIMIT", paying().play(SEED, 1, 2), 1);
        FavourTown none = people(3, 0);
        due("all three", none.play(SEED, 1, 2), 3);
        due("in no days", none.play(SEED, 0, 2), 0);
        FavourTown two = people(3, 2);
        due("but the one of 2", two.play(SEED, 1, 2), 2);
        FavourTown three = people(3, 3);
        due("but those of 2 and 3", three.play(SEED, 1, 2), 1);
        FavourTown all = people(3, 8);
        due("none", all.play(SEED, 1, 2), 0);
        FavourTown seven = people(3, 7);
        due("the one of 8", seven.play(SEED, 1, 2), 1);
    }

    @Sentence(promise = 34, value = "3 FAVOURS that are not GONE")
    void leftOfAPlay() {
        FavourTown x = people(3, 9, "give 0 to 1 1 for 1;give 0 to 1 1 for 2;give 0 to 1 1;call 2");
        due("as it is", x.play(SEED, 0, 3), 2);
        due("one ended, 1 and 2 gave, 0 of 7 left could not give 8", x.play(SEED, 1, 3), 3);
        due("nothing stays", x.count(4), 2);
        due("of nobody", new FavourTown().play(SEED, 60, 3), 0);
    }

    @Sentence(promise = 34, value = "4 RICH of all")
    void richOfAllPlayed() {
        FavourTown x = people(3, 20);
        due("as it is", x.play(SEED, 0, 4), 0);
        due("8 halved, and 2", x.play(SEED, 1, 4), 4096 + 2048);
        Check.town(x, "give 0 to 1 12;give 1 to 0 18");
        due("as it is now", x.play(SEED, 0, 4), 30 * 1024);
        due("of nobody", new FavourTown().play(SEED, 60, 4), 0);
    }

    @Sentence(promise = 34, value = "5 the RICHEST (of several the least; NONE without PEOPLE)")
    void theRichest() {
        due("without people", new FavourTown().play(SEED, 0, 5), NONE);
        due("without people, 60 days", new FavourTown().play(SEED, 60, 5), NONE);
        due("one alone", people(1, 9).play(SEED, 60, 5), 0);
        FavourTown x = people(12, 99);
        due("all have nothing", x.play(SEED, 0, 5), 0);
        x.give(0, 11, 5, 0, false);
        due("the last", x.play(SEED, 0, 5), 11);
        x.give(0, 3, 5, 0, false);
        due("of two alike the least", x.play(SEED, 0, 5), 3);
        x.give(1, 11, 1, 0, false);
        due("more by one", x.play(SEED, 0, 5), 11);
        due("played", people(3, 20).play(SEED, 1, 5), 1);
    }

    @Sentence(promise = 34, value = "IllegalArgumentException: DAYS are none")
    void daysOfAPlay() {
        FavourTown x = people(2, 9);
        for (int days : new int[] {Integer.MIN_VALUE, -1, 61, Integer.MAX_VALUE}) {
            fails("days " + days, WRONG, () -> x.play(SEED, days, 0));
        }
        due("0", x.play(SEED, 0, 0), 0);
        yes("60", x.play(SEED, 60, 1) > 0);
    }

    @Sentence(promise = 34, value = "NoSuchElementException: another what.")
    void anotherWhatOfAPlay() {
        FavourTown x = people(2, 9);
        for (int what : new int[] {Integer.MIN_VALUE, -1, 6, Integer.MAX_VALUE}) {
            fails("what " + what, NO_SUCH, () -> x.play(SEED, 60, what));
        }
        due("the last", x.play(SEED, 0, 5), 0);
    }

    @Sentence(promise = 35, value = "THE IMAGE is kept.")
    void theImageIsKept() {
        FavourTown x = new FavourTown();
        x.image();
        Check.town(x, "person 9;person 9;give 0 to 1 3");
        yes("of nothing", x.back());
        due("nobody", x.count(0), 0);
        due("no favour", x.count(3), 0);
        Check.town(x, "person 9;person 9;give 0 to 1 3");
        x.image();
        x.image();
        x.call(0);
        yes("of all", x.back());
        due("it stands", x.look(0, 1), 1);
        x.call(0);
        x.image();
        x.back();
        due("a later one in its place", x.look(0, 1), NONE);
    }

    @Sentence(promise = 36, value = "One goes back to THE IMAGE: true")
    void backToTheImage() {
        FavourTown x = people(2, 99, "give 0 to 1 8;law 3");
        x.image();
        String kept = seen(x);
        for (int k = 0; k < 3; k++) {
            Check.town(x, "person 9;give 1 to 2 7;pass 0 to 2;days 9;law 5");
            yes("back " + k, x.back());
            due("as it was: " + seen(x), bit(seen(x).equals(kept)), 1);
        }
        yes("back at once", x.back());
        due("as it was still", bit(seen(x).equals(kept)), 1);
    }

    @Sentence(promise = 36, value = "false, and nothing happens, if none was kept.")
    void noImage() {
        FavourTown x = people(2, 99, "give 0 to 1 8;days 2");
        String before = seen(x);
        no("none", x.back());
        due("nothing happens: " + seen(x), bit(seen(x).equals(before)), 1);
        no("none of a new town", new FavourTown().back());
    }

    @Sentence(promise = 37, value = "0 PEOPLE, 1 texts of THE TOWN, 2 TEMPERS, 3 FAVOURS, 4 those not GONE, 5 NEEDS, 6 RINGS, 7 DAY, 8 HAND LAW, 9 pairs who are NEAR.")
    void countsOfAll() {
        FavourTown x = people(12, 999, times(12, "need 0 of 1 1"), "near 0 1;near 11 0;days 99;law 0");
        fillWithFavours(x, 1);
        for (int k = x.count(1); k < 10; k++) {
            Check.town(x, "");
        }
        for (int k = 0; k < 6; k++) {
            Check.temper(x, "");
        }
        for (int k = 0; k < 8; k++) {
            Check.ring(x, "ab");
        }
        x.call(39);
        int[] counts = {12, 10, 6, 40, 39, 12, 8, 99, 0, 2};
        for (int what = 0; what < counts.length; what++) {
            due("full: count " + what, x.count(what), counts[what]);
        }
        int[] none = {0, 0, 0, 0, 0, 0, 0, 0, 10, 0};
        for (int what = 0; what < none.length; what++) {
            due("empty: count " + what, new FavourTown().count(what), none[what]);
        }
    }

    @Sentence(promise = 37, value = "NONE for another what.")
    void anotherCount() {
        FavourTown x = people(2, 9);
        for (int what : new int[] {Integer.MIN_VALUE, -1, 10, Integer.MAX_VALUE}) {
            due("count " + what, x.count(what), NONE);
        }
    }
}
