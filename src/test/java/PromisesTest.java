import java.util.NoSuchElementException;

/** For each promise of the document its ordinary answers, its edges and its refusals. */
public final class PromisesTest {
    private static final int NONE = FavourTown.NONE;
    private static final Class<IndexOutOfBoundsException> NOBODY = IndexOutOfBoundsException.class;
    private static final Class<IllegalArgumentException> WRONG = IllegalArgumentException.class;
    private static final Class<UnsupportedOperationException> FULL = UnsupportedOperationException.class;
    private static final Class<NoSuchElementException> NO_SUCH = NoSuchElementException.class;
    private static final String THREE = "person 99;person 99;person 99";
    private static final String FOUR = "person 999;person 999;person 999;person 999";

    private final Check check = new Check("PromisesTest");

    public static void main(String[] args) {
        PromisesTest t = new PromisesTest();
        t.promise1NewObject();
        t.promise2Feed();
        t.promise3End();
        t.promise4TownLines();
        t.promise4TownCounts();
        t.promise4WrongTowns();
        t.promise4NothingStays();
        t.promise5Temper();
        t.promise5WrongTempers();
        t.promise5Depth();
        t.promise6Fault();
        t.promise7Has();
        t.promise8Give();
        t.promise8GiveAndTempers();
        t.promise9Pass();
        t.promise9PassHome();
        t.promise10Call();
        t.promise11Days();
        t.promise12Look();
        t.promise13Hand();
        t.promise14Takes();
        t.promise14Facts();
        t.promise14Conditions();
        t.promise15And16RichAndDebt();
        t.promise17Owes();
        t.promise18Pays();
        t.promise19And20Needs();
        t.promise21To24Forgiving();
        t.promise25Port();
        t.promise26And27Flow();
        t.promise28Chain();
        t.promise29Ring();
        t.promise30Clear();
        t.promise31And32Loss();
        t.promise33Fits();
        t.promise34Play();
        t.promise35And36Image();
        t.promise37Count();
        t.check.end();
    }

    private void due(String what, long got, long want) {
        check.due(what, got, want);
    }

    private void due(String what, boolean got, boolean want) {
        check.due(what, got, want);
    }

    private void promise1NewObject() {
        FavourTown x = new FavourTown();
        int[] counts = {0, 0, 0, 0, 0, 0, 0, 0, 10, 0};
        for (int what = 0; what < counts.length; what++) {
            due("new: count " + what, x.count(what), counts[what]);
        }
        due("new: fault", x.fault(), NONE);
        due("new: back", x.back(), false);
        due("new: fewest", x.fewest(), 0);
        due("new: tape", x.end(1), false);
        due("NONE", FavourTown.NONE, -1);
    }

    private void promise2Feed() {
        FavourTown x = new FavourTown();
        // "law 3" and what end cuts off
        due("feed", x.feed(0x6C617720, 0x33FFFFFF, 0, 0, 0), 20);
        due("end", x.end(5), true);
        due("town of fed bytes", x.town(), 1);
        due("law", x.count(8), 3);
        for (int k = 1; k <= 20; k++) {
            due("feed " + k, x.feed(k, -k, 0, 1, 2), 20 * k);
        }
        due("feed above 400", x.feed(0, 0, 0, 0, 0), NONE);
        due("400 stand", x.end(400), true);
        x.end(381);
        due("feed above 400 by one", x.feed(0, 0, 0, 0, 0), NONE);
        due("none came", x.end(382), false);
        x.end(380);
        due("feed to 400", x.feed(0, 0, 0, 0, 0), 400);
        FavourTown y = new FavourTown();
        // 0x80 and above are bytes as well, and wrong ones
        y.feed(0x20208020, 0, 0, 0, 0);
        check.fails("town of a high byte", WRONG, () -> y.town());
        due("fault at a high byte", y.fault(), 2);
        Check.write(y, "a");
        due("feed behind", y.feed(0x20202020, 0x20202020, 0x20202020, 0x20202020, 0x20202020), 21);
    }

    private void promise3End() {
        FavourTown x = new FavourTown();
        due("end of nothing", x.end(0), true);
        due("end below", x.end(-1), false);
        x.feed(0, 0, 0, 0, 0);
        due("end above", x.end(21), false);
        due("end at its size", x.end(20), true);
        due("end smaller", x.end(7), true);
        due("end larger again", x.end(8), false);
        due("end below again", x.end(Integer.MIN_VALUE), false);
        due("feed behind 7", x.feed(0, 0, 0, 0, 0), 27);
    }

    private void promise4TownLines() {
        FavourTown x = Check.told(THREE);
        due("empty text", Check.town(x, ""), 2);
        due("blank text", Check.town(x, "     "), 3);
        due("all lines", Check.town(x, "near 0 1;law 4;give 0 to 1 8 for 3 forced;pass 0 to 2;need 2 of 0 5;days 2"), 4);
        due("near", x.count(9), 1);
        due("law", x.count(8), 4);
        due("giver", x.look(0, 0), 0);
        due("holder", x.look(0, 1), 2);
        due("end", x.look(0, 5), 3);
        due("forced", x.look(0, 6), 1);
        due("need", x.count(5), 1);
        due("day", x.count(7), 2);
        due("a day more by text", Check.town(x, "days 1"), 5);
        due("gone", x.look(0, 1), NONE);
        due("blanks all over", Check.town(x, "  give  1  to  2  7  ;  call  1  "), 6);
        due("called", x.look(1, 1), NONE);
        due("no blanks where none are needed", Check.town(x, "give0to1 5for3forced;near1 2;law010"), 7);
        due("amount", x.look(2, 2), 5);
        due("end of no blanks", x.look(2, 5), 6);
        due("law of 010", x.count(8), 10);
        due("near is of both, and once", x.count(9), 2);
        due("near again", Check.town(x, "near 2 1;near 1 0"), 8);
        due("pairs", x.count(9), 2);
    }

    private void promise4TownCounts() {
        FavourTown x = new FavourTown();
        for (int k = 1; k <= 10; k++) {
            due("town " + k, Check.town(x, "person 9;days 1"), k);
        }
        check.fails("an 11th text", FULL, () -> Check.town(x, "person 9"));
        due("fault of the 11th", x.fault(), NONE);
        due("people behind the 11th", x.count(0), 10);
        due("days behind the 11th", x.count(7), 10);
        due("the tape is used up", x.end(1), false);
        check.wrongTown(x, "person 9;x", 9);
        due("people behind a wrong 11th", x.count(0), 10);
        due("texts", x.count(1), 10);
    }

    private void promise4WrongTowns() {
        FavourTown x = Check.told(THREE, "give 0 to 1 8");
        String[] texts = {
            "person", "person 1000", "person 0001", "person x", "persons 1", "personz 1", "apple", "Person 1", "person 1 1",
            ";", " ; ", "law 1;", "law 1;;law 2", "law 11", "law 1 person 2", "law -1", "law 1\t",
            "near 0", "near 3 0", "near 0 3", "near 1 1", "near 01", "near 0 00", "near 0,1",
            "give 0 1 5", "give 0 to 0 5", "give 0 to 1 0", "give 0 to 1 100", "give 0 to 1", "give 0 to 1 5 for",
            "give 0 to 1 5 for 0", "give 0 to 1 5 for 100", "give 0 to 1 5 forced for 2", "give 0 to 1 5 forced forced",
            "pass 1 to 2", "pass 0 of 2", "pass 0 to 3", "pass 0 to", "call 1", "call", "call 0000",
            "days 0", "days 100", "days 1 2", "need 0 of 0 4", "need 0 to 1 4", "need 0 of 1 0", "need 0 of 1 100",
            "need 0 of 1", "take", "call 0   ", "call   ", "law 1 ; give 0 to 1 1 ; pass 2 to 2",
        };
        int[] faults = {
            6, 7, 7, 7, 0, 0, 0, 0, 9,
            0, 1, 6, 6, 4, 6, 4, 5,
            6, 5, 7, 7, 7, 7, 6,
            7, 10, 12, 12, 11, 17,
            18, 18, 21, 21,
            5, 7, 10, 9, 5, 4, 5,
            5, 5, 7, 10, 7, 12, 12,
            11, 0, NONE, 7, 29,
        };
        for (int k = 0; k < texts.length; k++) {
            if (faults[k] == NONE) {
                check.rightTown(x, texts[k]);
            } else {
                check.wrongTown(x, texts[k], faults[k]);
            }
        }
        String fourteen = "law 1;law 1;law 1;law 1;law 1;law 1;law 1;law 1;law 1;law 1;law 1;law 1;law 1;law 1";
        check.rightTown(x, fourteen);
        check.wrongTown(x, fourteen + ";", 84);
        check.wrongTown(x, fourteen + "; law 1", 85);
        check.wrongTown(x, fourteen + ";99", 84);
        String twelve = "person 1;person 1;person 1;person 1;person 1;person 1;person 1;person 1;person 1";
        check.rightTown(x, twelve);
        check.wrongTown(x, "law 2; person", 7);
        String needs = "need 0 of 1 1;need 0 of 1 1;need 0 of 1 1;need 0 of 1 1;need 0 of 1 1;need 0 of 1 1";
        check.rightTown(x, needs);
        check.rightTown(x, needs);
        due("needs", x.count(5), 12);
        check.wrongTown(x, " need 0 of 1 1", 1);
    }

    private void promise4NothingStays() {
        FavourTown x = Check.told(THREE, "give 0 to 1 8;give 1 to 0 3 for 9;need 0 of 1 2");
        check.wrongTown(x, "person 5;near 0 3;law 2;give 0 to 2 9;pass 0 to 2;call 1;days 5;need 3 of 0 1;wrong", 78);
        int[] counts = {3, 2, 0, 2, 2, 1, 0, 0, 10, 0};
        for (int what = 0; what < counts.length; what++) {
            due("behind a wrong text: count " + what, x.count(what), counts[what]);
        }
        due("holder", x.look(0, 1), 1);
        due("hands", x.look(0, 3), 0);
        due("hand", x.hand(0, 2), NONE);
        due("rich 0", x.rich(0), 3072);
        due("rich 1", x.rich(1), 8192);
        due("debt 0", x.debt(0), 8);
        // what is refused makes no text wrong: above the limit, to its holder, gone, by the law
        check.rightTown(x, "give 0 to 1 92;pass 0 to 1;call 1;call 1;pass 1 to 2;law 0;pass 0 to 2");
        due("favours", x.count(3), 2);
        check.wrongTown(x, "give 0 to 1 92;call 2", 20);
    }

    private void promise5Temper() {
        check.rightTemper("");
        check.rightTemper("   ");
        check.rightTemper("take");
        check.rightTemper("refuse;take");
        check.rightTemper(" take if near or timed and not again ; refuse if ( near ) ");
        check.rightTemper("take if 1<worth+amount+hands+left+owed+debt+999");
        check.rightTemper("take if(near)and(not(again))or 3>2");
        check.rightTemper("take;take;take;take;take;take;take;take;take;take;take;take");
        FavourTown x = new FavourTown();
        for (int k = 0; k < 6; k++) {
            due("temper " + k, Check.temper(x, k == 3 ? "" : "take"), k);
        }
        check.fails("a 7th temper", FULL, () -> Check.temper(x, "take"));
        due("fault of the 7th", x.fault(), NONE);
        due("the tape is used up", x.end(1), false);
        check.fails("a wrong 7th temper", WRONG, () -> Check.temper(x, "take it"));
        due("fault of a wrong 7th", x.fault(), 5);
        due("tempers", x.count(2), 6);
    }

    private void promise5WrongTempers() {
        String[] texts = {
            "takes", "take if", "take if  ", "take near", "take if worth", "take if worth<", "take if near<2",
            "take if (near", "take if near)", "take if ()", "take if not", "take if near near", "take if near and",
            "take if near or or", "refuse if near or", "take;", "take;;take", ";take", "take if 1000<2", "take if 1<0002",
            "take if 1=2", "take if 1<2<3", "take if 1+<3", "take if +1<3", "take if 1<2+", "take if (1)<2",
            "take if 1<(2)", "take if worth+near<3", "person 3", "take if fa<2", "take if 1 2", "if near",
            "take if near take", "refuse refuse", "take if not or", "take if worth>5 and 4", "TAKE", "take\n",
            "take;take;take;take;take;take;take;take;take;take;take;take; take",
            "take;take;take;take;take;take;take;take;take;take;take;take;",
        };
        int[] faults = {
            0, 7, 9, 5, 13, 14, 12,
            13, 12, 9, 11, 13, 16,
            16, 17, 5, 5, 0, 8, 10,
            9, 11, 10, 8, 12, 10,
            10, 14, 0, 8, 10, 0,
            13, 7, 12, 21, 0, 4,
            61, 60,
        };
        for (int k = 0; k < texts.length; k++) {
            check.wrongTemper(texts[k], faults[k]);
        }
    }

    private void promise5Depth() {
        check.rightTemper("take if ((((((near))))))");
        check.wrongTemper("take if (((((((near)))))))", 14);
        check.rightTemper("take if not not not not not not near");
        check.wrongTemper("take if not not not not not not not near", 32);
        check.wrongTemper("take if not(not(not((near))))", 20);
        check.wrongTemper("take if not(not(not(not near)))", 20);
        check.rightTemper("take if not(not(not(near)))");
        check.rightTemper("take if not(not(((near)))) or ((((((near))))))");
        check.rightTemper("take if not near and not near and not near and not near and not near and not near and not near");
    }

    private void promise6Fault() {
        FavourTown x = new FavourTown();
        due("fault ahead of any", x.fault(), NONE);
        check.wrongTown(x, "law", 3);
        Check.write(x, "ab");
        check.fails("ring", WRONG, () -> x.ring());
        due("a ring is no text", x.fault(), 3);
        Check.town(x, "person 9;person 9");
        due("a right text", x.fault(), NONE);
        check.fails("a wrong temper", WRONG, () -> Check.temper(x, "take if"));
        due("of a temper", x.fault(), 7);
        x.image();
        Check.temper(x, "take");
        due("of a right temper", x.fault(), NONE);
        check.wrongTown(x, "la", 0);
        x.back();
        due("back leaves the fault", x.fault(), 0);
    }

    private void promise7Has() {
        FavourTown x = Check.told("person 9;person 9");
        check.fails("has without tempers", NOBODY, () -> x.has(0, 0));
        due("none yet", x.has(0, NONE), NONE);
        Check.temper(x, "refuse");
        Check.temper(x, "take");
        due("first", x.has(0, 1), NONE);
        due("then", x.has(0, 0), 1);
        due("then none", x.has(0, NONE), 0);
        due("of another", x.has(1, 0), NONE);
        check.fails("has of nobody", NOBODY, () -> x.has(2, 0));
        check.fails("has of nobody below", NOBODY, () -> x.has(-1, 0));
        check.fails("has a temper too high", NOBODY, () -> x.has(0, 2));
        check.fails("has a temper below NONE", NOBODY, () -> x.has(0, -2));
        due("unchanged", x.has(0, NONE), NONE);
        due("1 refuses", x.give(0, 1, 1, 0, false), NONE);
        due("0 takes", x.give(1, 0, 1, 0, false), 0);
    }

    private void promise8Give() {
        FavourTown x = Check.told("person 10;person 99;person 0");
        due("give", x.give(0, 1, 4, 0, false), 0);
        due("give timed", x.give(0, 1, 4, 99, true), 1);
        due("above the limit", x.give(0, 1, 3, 0, true), NONE);
        due("to the limit", x.give(0, 1, 2, 0, false), 2);
        due("limit 0", x.give(2, 0, 1, 0, false), NONE);
        due("debt", x.debt(0), 10);
        x.call(0);
        due("gone makes room", x.give(0, 2, 4, 0, false), 3);
        check.fails("from nobody", NOBODY, () -> x.give(3, 0, 1, 0, false));
        check.fails("to nobody", NOBODY, () -> x.give(0, -1, 1, 0, false));
        check.fails("nobody ahead of a wrong amount", NOBODY, () -> x.give(0, 3, 0, 0, false));
        check.fails("to oneself", WRONG, () -> x.give(1, 1, 1, 0, false));
        check.fails("amount 0", WRONG, () -> x.give(1, 0, 0, 0, false));
        check.fails("amount 100", WRONG, () -> x.give(1, 0, 100, 0, false));
        check.fails("days -1", WRONG, () -> x.give(1, 0, 1, -1, false));
        check.fails("days 100", WRONG, () -> x.give(1, 0, 1, 100, false));
        for (int k = 4; k < 40; k++) {
            due("give " + k, x.give(1, 0, 1, 0, false), k);
        }
        due("a 41st", x.give(1, 0, 1, 0, false), NONE);
        x.forgive(7);
        due("a 41st, though all are gone", x.give(1, 0, 1, 0, true), NONE);
        due("favours", x.count(3), 40);
        due("left", x.count(4), 0);
    }

    private void promise8GiveAndTempers() {
        FavourTown x = Check.told(THREE + ";near 0 1");
        // debt as it is ahead of the gift, owed as it is now
        Check.temper(x, "take if near and hands<1 and worth<amount+1 and worth+1>amount and debt<10 and owed<15");
        x.has(1, 0);
        due("not near", x.give(2, 1, 5, 0, false), NONE);
        due("debt 0", x.give(0, 1, 9, 0, false), 0);
        due("debt 9", x.give(0, 1, 5, 0, false), 1);
        due("debt 14", x.give(0, 1, 1, 0, false), NONE);
        due("forced", x.give(0, 1, 1, 0, true), 2);
        Check.temper(x, "take if timed and left>6;refuse if again;take if not timed and left>998 and left<999+1");
        x.has(2, 1);
        due("timed 7", x.give(0, 2, 1, 7, false), 3);
        due("timed 6", x.give(0, 2, 1, 6, false), NONE);
        due("not timed", x.give(0, 2, 1, 0, false), 4);
        due("no again by another favour", x.give(0, 2, 1, 0, false), 5);
    }

    private void promise9Pass() {
        FavourTown x = Check.told(FOUR + ";give 0 to 1 3");
        int worth = 3072;
        for (int k = 1; k <= 10; k++) {
            worth /= 2;
            due("pass " + k, x.pass(0, k % 3 + 1), worth);
        }
        due("worth of 10 hands", worth, 3);
        due("an 11th hand", x.pass(0, 3), NONE);
        due("home with 10 hands", x.pass(0, 0), NONE);
        due("hands", x.look(0, 3), 10);
        FavourTown y = Check.told(FOUR + ";give 0 to 1 8;give 0 to 1 8 forced;law 1");
        check.fails("to its holder", WRONG, () -> y.pass(0, 1));
        check.fails("no such favour", NOBODY, () -> y.pass(2, 1));
        check.fails("no such favour below", NOBODY, () -> y.pass(-1, 1));
        check.fails("no such person", NOBODY, () -> y.pass(0, 4));
        Check.temper(y, "refuse");
        y.has(2, 0);
        due("not taken", y.pass(0, 2), NONE);
        due("forced", y.pass(1, 2), 4096);
        due("the law", y.pass(1, 3), NONE);
        due("not moved", y.look(1, 1), 2);
        Check.town(y, "law 2");
        due("another law", y.pass(1, 3), 2048);
        y.call(0);
        due("gone", y.pass(0, 3), NONE);
        due("gone to whom it was with", y.pass(0, 1), NONE);
    }

    private void promise9PassHome() {
        FavourTown x = Check.told(THREE + ";give 0 to 1 8");
        Check.temper(x, "refuse");
        x.has(0, 0);
        due("home though the giver takes nothing", x.pass(0, 0), 0);
        due("holder", x.look(0, 1), NONE);
        due("hands", x.look(0, 3), 1);
        due("row", x.hand(0, 2), 0);
        due("debt", x.debt(0), 0);
        due("rich of the giver", x.rich(0), 0);
        due("rich of the one before", x.rich(1), 0);
        due("gone", x.pass(0, 2), NONE);
        due("gone for the giver", x.pass(0, 0), NONE);
        Check.town(x, "give 0 to 1 8;law 0");
        due("the law holds for home too", x.pass(1, 0), NONE);
    }

    private void promise10Call() {
        FavourTown x = Check.told(THREE + ";give 0 to 1 8;pass 0 to 2;give 1 to 2 3 for 1");
        due("call", x.call(0), 4096);
        due("again", x.call(0), NONE);
        due("hands stay", x.look(0, 3), 1);
        due("rich", x.rich(2), 3072);
        due("debt", x.debt(0), 0);
        x.days(1);
        due("of one that ended", x.call(1), NONE);
        check.fails("no such", NOBODY, () -> x.call(2));
        check.fails("none", NOBODY, () -> x.call(-1));
    }

    private void promise11Days() {
        FavourTown x = Check.told(THREE + ";give 0 to 1 1 for 3;give 0 to 1 1 for 4;give 0 to 1 1 for 99;give 0 to 1 1");
        due("2 days", x.days(2), 0);
        due("a third", x.days(1), 1);
        due("gone", x.look(0, 1), NONE);
        due("end stays", x.look(0, 5), 3);
        due("give later", x.give(0, 1, 1, 2, false), 4);
        due("its end", x.look(4, 5), 5);
        x.call(1);
        due("gone already", x.days(1), 0);
        due("many at once", x.days(99), 2);
        due("day", x.count(7), 103);
        due("left", x.count(4), 1);
        due("debt", x.debt(0), 1);
        due("rich", x.rich(1), 1024);
        check.fails("0 days", WRONG, () -> x.days(0));
        check.fails("100 days", WRONG, () -> x.days(100));
        check.fails("days below", WRONG, () -> x.days(-5));
        due("day unchanged", x.count(7), 103);
    }

    private void promise12Look() {
        FavourTown x = Check.told(THREE + ";days 7;give 2 to 1 9 for 5 forced;pass 0 to 0;give 1 to 0 4");
        int[] first = {2, 0, 9, 1, 4608, 12, 1};
        int[] second = {1, 0, 4, 0, 4096, NONE, 0};
        int[] gone = {2, NONE, 9, 1, 0, 12, 1};
        for (int what = 0; what <= 6; what++) {
            due("look 0 " + what, x.look(0, what), first[what]);
            due("look 1 " + what, x.look(1, what), second[what]);
        }
        x.call(0);
        for (int what = 0; what <= 6; what++) {
            due("look gone " + what, x.look(0, what), gone[what]);
        }
        check.fails("what 7", NO_SUCH, () -> x.look(0, 7));
        check.fails("what -1", NO_SUCH, () -> x.look(0, -1));
        check.fails("no such favour ahead of what", NOBODY, () -> x.look(2, 7));
        check.fails("no such favour below", NOBODY, () -> x.look(-1, 0));
    }

    private void promise13Hand() {
        FavourTown x = Check.told(THREE + ";give 2 to 1 9;pass 0 to 0;pass 0 to 1;pass 0 to 2;give 0 to 1 1");
        int[] row = {2, 1, 0, 1, 2, NONE, NONE};
        for (int k = 0; k < row.length; k++) {
            due("hand " + k, x.hand(0, k), row[k]);
        }
        due("far behind", x.hand(0, Integer.MAX_VALUE), NONE);
        due("below", x.hand(0, -1), NONE);
        due("of another", x.hand(1, 2), NONE);
        due("giver of another", x.hand(1, 0), 0);
        check.fails("no such", NOBODY, () -> x.hand(2, 0));
        check.fails("none", NOBODY, () -> x.hand(-1, 0));
    }

    private void promise14Takes() {
        FavourTown x = Check.told(THREE + ";give 0 to 1 8;give 0 to 1 8 forced");
        due("without a temper", x.takes(2, 0), true);
        Check.temper(x, "");
        Check.temper(x, "refuse if near;take if worth>3;refuse;take");
        x.has(2, 0);
        due("no line holds", x.takes(2, 0), false);
        due("forced", x.takes(2, 1), true);
        x.has(2, 1);
        due("worth 4 then", x.takes(2, 0), true);
        x.pass(0, 2);
        due("worth 2 then", x.takes(2, 0), false);
        x.has(1, 1);
        x.has(0, 1);
        due("the giver by its temper", x.takes(0, 0), false);
        Check.town(x, "near 0 2;give 0 to 1 20;give 1 to 0 20");
        due("the first line that holds", x.takes(2, 2), false);
        due("not near", x.takes(1, 3), true);
        x.call(3);
        due("gone, and asked all the same", x.takes(1, 3), true);
        check.fails("no such person", NOBODY, () -> x.takes(3, 0) ? 1 : 0);
        check.fails("no such favour", NOBODY, () -> x.takes(0, 4) ? 1 : 0);
        check.fails("none", NOBODY, () -> x.takes(0, -1) ? 1 : 0);
    }

    /** Whether the one has just this much of a measure. */
    private void fact(FavourTown x, String measure, int value, int person, int favour) {
        x.image();
        Check.temper(x, "take if " + measure + "+1>" + value + " and " + measure + "<" + value + "+1");
        x.has(person, x.count(2) - 1);
        due(measure + " of " + favour + " for " + person + " is " + value, x.takes(person, favour), true);
        x.back();
    }

    private void promise14Facts() {
        FavourTown x = Check.told(FOUR + ";give 0 to 1 9 for 5;pass 0 to 2;days 1;give 3 to 1 7;give 1 to 3 5;pass 2 to 0");
        fact(x, "worth", 2, 3, 0);
        fact(x, "amount", 9, 3, 0);
        fact(x, "hands", 2, 3, 0);
        fact(x, "left", 4, 3, 0);
        fact(x, "left", 999, 0, 1);
        fact(x, "owed", 0, 3, 0);
        fact(x, "owed", 2, 0, 1);
        fact(x, "owed", 7, 1, 0);
        fact(x, "debt", 9, 1, 0);
        fact(x, "debt", 7, 2, 1);
        x.pass(0, 3);
        fact(x, "owed", 2, 3, 0);
        FavourTown y = Check.told(FOUR + ";give 0 to 1 9 for 5;give 2 to 3 4 for 9;give 0 to 3 3;near 0 3");
        Check.temper(y, "take if again");
        Check.temper(y, "take if timed");
        Check.temper(y, "take if near");
        Check.temper(y, "take if 3+1>left+1");
        y.pass(0, 2);
        for (int p = 0; p < 4; p++) {
            y.has(p, 0);
            due("again " + p, y.takes(p, 0), p == 1 || p == 2);
            y.has(p, 1);
            due("timed " + p, y.takes(p, 0) && !y.takes(p, 2), true);
            y.has(p, 2);
            due("near " + p, y.takes(p, 0), p == 3);
            due("near by its giver " + p, y.takes(p, 1), false);
        }
        y.has(0, 0);
        y.has(2, NONE);
        y.pass(0, 0);
        due("again, as it came home", y.takes(0, 0), true);
        y.days(2);
        y.has(1, 3);
        due("left 3", y.takes(1, 0), false);
        y.days(1);
        due("left 2", y.takes(1, 0), true);
        y.days(9);
        y.has(1, NONE);
        Check.temper(y, "take if left+8<1");
        y.has(1, 4);
        due("left of one that ended long ago is below 0", y.takes(1, 0), false);
        y.days(2);
        due("left is -9", y.takes(1, 0), true);
        due("left is -5", y.takes(1, 1), false);
    }

    private void holds(String condition, boolean want) {
        FavourTown x = Check.told("person 99;person 99;give 0 to 1 8;near 0 1");
        Check.temper(x, "take if " + condition);
        x.has(1, 0);
        due(condition, x.takes(1, 0), want);
    }

    /** near and again hold, timed does not. */
    private void promise14Conditions() {
        holds("near or timed and timed", true);
        holds("(near or timed) and timed", false);
        holds("timed and timed or near", true);
        holds("timed and (timed or near)", false);
        holds("not timed and near", true);
        holds("not (timed or near)", false);
        holds("not timed or timed", true);
        holds("not not near", true);
        holds("not near or again", true);
        holds("near and again and timed", false);
        holds("timed or timed or again", true);
        holds("not worth>4", true);
        holds("not worth<5", false);
        holds("1<1", false);
        holds("1>1", false);
        holds("1+1>1", true);
        holds("1+2+3<6", false);
        holds("1+2+3<7 and 7>3+2+1", true);
        holds("999>998", true);
        holds("007<8", true);
        holds("worth+amount>11 and worth+amount<13", true);
        holds("not(not(not timed and(near or again)))", true);
        holds("timed or near and(timed or(near and not(timed or again)or again))", true);
    }

    private void promise15And16RichAndDebt() {
        FavourTown x = Check.told(THREE + ";give 0 to 1 7;give 2 to 1 3;give 1 to 0 5;pass 0 to 2");
        due("rich 0", x.rich(0), 5120);
        due("rich 1", x.rich(1), 3072);
        due("rich 2", x.rich(2), 3584);
        due("debt 0", x.debt(0), 7);
        due("debt 1", x.debt(1), 5);
        due("debt 2", x.debt(2), 3);
        x.pass(1, 2);
        due("rich 1 behind", x.rich(1), 0);
        due("debt 2 behind", x.debt(2), 0);
        check.fails("rich of nobody", NOBODY, () -> x.rich(3));
        check.fails("rich below", NOBODY, () -> x.rich(-1));
        check.fails("debt of nobody", NOBODY, () -> x.debt(3));
        check.fails("debt below", NOBODY, () -> x.debt(-1));
    }

    private void promise17Owes() {
        FavourTown x = Check.told(THREE + ";give 0 to 1 7;give 0 to 1 5;give 0 to 2 4;pass 0 to 2");
        due("0 to 1", x.owes(0, 1), 5);
        due("0 to 2, by amounts", x.owes(0, 2), 11);
        due("1 to 0", x.owes(1, 0), 0);
        due("1 to 2, that it passed on", x.owes(1, 2), 0);
        due("one to itself", x.owes(0, 0), 0);
        x.call(1);
        due("gone", x.owes(0, 1), 0);
        check.fails("first nobody", NOBODY, () -> x.owes(3, 0));
        check.fails("second nobody", NOBODY, () -> x.owes(0, -1));
    }

    private void promise18Pays() {
        FavourTown x = Check.told(FOUR + ";give 0 to 1 20;give 0 to 1 12;give 3 to 1 12;give 2 to 1 10;give 0 to 2 99");
        due("the least that is enough", x.pays(1, 2, 4), 1);
        due("of several the least", x.pays(1, 2, 6), 1);
        due("more", x.pays(1, 2, 7), 0);
        due("just", x.pays(1, 2, 10), 0);
        due("too much", x.pays(1, 2, 11), NONE);
        due("not to its giver", x.pays(1, 0, 1), 3);
        due("to 3", x.pays(1, 3, 1), 3);
        due("of who holds none", x.pays(3, 1, 1), NONE);
        Check.temper(x, "take if worth>8");
        x.has(2, 0);
        due("what it takes", x.pays(1, 2, 1), 0);
        Check.town(x, "law 0");
        due("no hands are left", x.pays(1, 3, 1), NONE);
        Check.town(x, "law 1");
        x.pass(0, 3);
        due("passed once", x.pays(3, 2, 1), NONE);
        Check.town(x, "law 10;give 0 to 3 1;give 0 to 3 3");
        due("half a whole is none", x.pays(3, 1, 1), 6);
        check.fails("nobody", NOBODY, () -> x.pays(4, 0, 0));
        check.fails("nobody second", NOBODY, () -> x.pays(0, -1, 1));
        check.fails("both one", WRONG, () -> x.pays(1, 1, 1));
        check.fails("n 0", WRONG, () -> x.pays(1, 2, 0));
        check.fails("n 100", WRONG, () -> x.pays(1, 2, 100));
    }

    private void promise19And20Needs() {
        FavourTown x = Check.told("person 10;person 99;person 99;give 2 to 0 8;need 0 of 1 4;need 0 of 1 5;need 0 of 1 11");
        due("by passing", x.can(0), true);
        due("by giving", x.can(1), true);
        due("above the limit", x.can(2), false);
        due("not met", x.meet(2), NONE);
        due("met by passing", x.meet(0), 0);
        due("passed", x.look(0, 1), 1);
        due("met again, by giving", x.meet(0), 1);
        due("given", x.look(1, 0), 0);
        due("to", x.look(1, 1), 1);
        due("of", x.look(1, 2), 4);
        due("plain", x.look(1, 5) == NONE && x.look(1, 6) == 0, true);
        due("the limit", x.meet(1), 2);
        due("at the limit", x.can(1), false);
        due("the needs stay", x.count(5), 3);
        Check.temper(x, "refuse");
        Check.town(x, "need 1 of 2 1");
        x.call(0);
        due("one who would take", x.can(3), true);
        x.has(2, 0);
        due("one who takes nothing", x.can(3), false);
        check.fails("can of none", NOBODY, () -> x.can(4) ? 1 : 0);
        check.fails("can below", NOBODY, () -> x.can(-1) ? 1 : 0);
        check.fails("meet of none", NOBODY, () -> x.meet(4));
        check.fails("meet below", NOBODY, () -> x.meet(-1));
        FavourTown y = Check.told("person 999;person 999;need 0 of 1 3");
        for (int k = 0; k < 40; k++) {
            y.give(1, 0, 1, 0, false);
        }
        due("no 41st favour meets a need", y.can(0), false);
    }

    private void promise21To24Forgiving() {
        FavourTown x = Check.told("person 10;person 10;person 10",
            "give 0 to 1 10;give 1 to 2 10;give 2 to 0 3 ;need 0 of 1 5;need 1 of 0 5;need 2 of 1 5");
        due("none forgives", x.witness(0), 0);
        due("enough of none", x.enough(0), false);
        due("1 forgives", x.witness(2), 1);
        due("2 forgives", x.witness(4), 0);
        due("1 and 2", x.witness(6), NONE);
        due("enough", x.enough(6), true);
        due("bits of nobody", x.enough(6 | 8 | 1 << 31), true);
        due("all bits", x.enough(-1), true);
        due("fewest", x.fewest(), 6);
        due("nothing stays", x.count(4), 3);
        x.has(0, NONE);
        due("forgive nobody", x.forgive(8), 0);
        due("forgive", x.forgive(6), 2);
        due("forgiven already", x.forgive(6), 0);
        due("left", x.count(4), 1);
        due("debt", x.debt(0) + x.debt(1), 0);
        due("rich", x.rich(1) + x.rich(2), 0);
        due("enough now", x.enough(0), true);
        due("fewest now", x.fewest(), 0);
        // either 1 or 2 could forgive: of several the least as bits
        FavourTown y = Check.told("person 10;person 10;person 10;give 0 to 2 5;give 0 to 1 5;need 0 of 1 5");
        due("the least of several", y.fewest(), 2);
        due("both singly", y.enough(4), true);
        // the fewest come ahead of the least as bits
        FavourTown v = Check.told(FOUR.replace("999", "12") + ";give 3 to 0 3;give 3 to 1 3;give 3 to 2 6;need 3 of 0 6");
        due("two together", v.enough(3), true);
        due("none of them alone", v.enough(1) || v.enough(2), false);
        due("one alone", v.fewest(), 4);
        // to forgive can take away what one would pay with
        FavourTown z = Check.told("person 0;person 9;person 9;give 1 to 0 8;need 0 of 2 4");
        due("enough of none", z.enough(0), true);
        due("who forgives cannot pay with it", z.witness(1), 0);
        Check.town(z, "need 0 of 2 5");
        due("none is enough", z.fewest(), NONE);
        due("the first that fails", z.witness(0), 1);
        // owed counts what is held behind the forgiving
        FavourTown w = Check.told("person 9;person 9;give 0 to 1 2;need 0 of 1 2");
        Check.temper(w, "take if owed<2");
        w.has(1, 0);
        due("too much is owed", w.enough(0), false);
        due("less is owed", w.enough(2), true);
        due("by forgiving", w.fewest(), 2);
    }

    private void promise25Port() {
        FavourTown x = Check.told(FOUR + ";give 0 to 1 5;give 0 to 1 3;give 2 to 1 9;give 0 to 1 1;give 0 to 3 50");
        due("each rounded down", x.port(1, 3), 2 + 1 + 4);
        due("not its giver's", x.port(1, 2), 3);
        due("to the giver of most", x.port(1, 0), 4);
        due("of none", x.port(2, 1), 0);
        Check.temper(x, "take if amount>4");
        x.has(3, 0);
        due("what it takes", x.port(1, 3), 6);
        x.call(2);
        due("gone", x.port(1, 3), 2);
        Check.town(x, "law 0");
        due("by the law", x.port(1, 3), 0);
        check.fails("nobody", NOBODY, () -> x.port(0, 4));
        check.fails("nobody first", NOBODY, () -> x.port(-1, 4));
        check.fails("both one", WRONG, () -> x.port(1, 1));
    }

    /** 4 gives all, so that each PORT from a to b is as told: amounts are twice the PORT. */
    private FavourTown ported(String... ports) {
        FavourTown x = Check.told("person 0;person 0;person 0;person 0;person 999");
        Check.temper(x, "take if amount<10");
        StringBuilder gifts = new StringBuilder();
        for (String port : ports) {
            gifts.append(gifts.length() == 0 ? "" : ";").append("give 4 to ").append(port);
        }
        Check.town(x, gifts.toString());
        return x;
    }

    private void promise26And27Flow() {
        // what one holds, all others but 4 take
        FavourTown x = ported("0 10", "1 6", "2 4");
        due("straight and through two", x.most(0, 3), 5 + 3 + 2);
        due("cut", x.cut(0, 3), 7);
        due("to 1", x.most(0, 1), 5 + 2);
        due("cut to 1", x.cut(0, 1), 1 | 4 | 8);
        due("of who has nothing", x.most(3, 0), 0);
        due("cut of nothing", x.cut(3, 0), 8);
        due("to the giver of all", x.most(0, 4), 0);
        due("cut to the giver", x.cut(0, 4), 15);
        // 1 takes only what is small: 0 has 5 and 3 to 1, and 5+3+20 to 2
        FavourTown y = ported("0 10", "0 6", "0 40");
        Check.temper(y, "take if amount<11");
        y.has(1, 1);
        due("port by temper", y.port(0, 1), 8);
        due("most", y.most(0, 1), 8);
        due("cut", y.cut(0, 1), 1 | 4 | 8);
        due("nothing stays", y.look(0, 1), 0);
        flowTakenBack();
        check.fails("nobody", NOBODY, () -> y.most(0, 5));
        check.fails("both one", WRONG, () -> y.most(2, 2));
        check.fails("cut of nobody", NOBODY, () -> y.cut(-1, 0));
        check.fails("cut of one", WRONG, () -> y.cut(2, 2));
    }

    /** The first way found, 0 1 3 5, must give way to 0 1 4 5, for 2 can go by 3 alone. */
    private void flowTakenBack() {
        FavourTown x = Check.told("person 0;person 0;person 0;person 0;person 0;person 0;person 999",
            "give 6 to 0 6;give 6 to 0 20;give 6 to 1 8;give 6 to 2 10;give 6 to 1 16;give 6 to 3 4;give 6 to 4 18");
        String[] tempers = {"", "amount>5 and amount<7", "amount>19", "amount<11 and amount>7",
            "amount>15 and amount<17", "amount<5 or amount>17 and amount<19"};
        for (int p = 0; p < tempers.length; p++) {
            Check.temper(x, p == 0 ? "refuse" : "take if " + tempers[p]);
            x.has(p, p);
        }
        int[] wants = {0, 3, 10, 0, 0, 0};
        for (int to = 1; to < wants.length; to++) {
            due("port 0 to " + to, x.port(0, to), wants[to]);
        }
        due("most with a way taken back", x.most(0, 5), 5);
        due("cut with a way taken back", x.cut(0, 5), 1 | 4 | 8);
    }

    private void promise28Chain() {
        // 0 pays 2 and 1, these pay 3, none else: tempers say who takes from whom by amounts
        FavourTown x = Check.told("person 0;person 0;person 0;person 0;person 999");
        Check.town(x, "give 4 to 0 10;give 4 to 2 20;give 4 to 1 20");
        Check.temper(x, "take if amount>15");
        x.has(3, 0);
        due("steps", x.chain(0, 3, 1, NONE), 2);
        due("the first", x.chain(0, 3, 1, 0), 0);
        due("the first such row", x.chain(0, 3, 1, 1), 1);
        due("the last", x.chain(0, 3, 1, 2), 3);
        due("behind", x.chain(0, 3, 1, 3), NONE);
        due("far behind", x.chain(0, 3, 1, Integer.MAX_VALUE), NONE);
        due("to 5", x.chain(0, 3, 5, NONE), 2);
        due("to 6", x.chain(0, 3, 6, NONE), NONE);
        due("none has no people", x.chain(0, 3, 6, 0), NONE);
        due("one step", x.chain(1, 3, 10, NONE), 1);
        due("too much", x.chain(1, 3, 11, NONE), NONE);
        x.has(1, 0);
        due("another way", x.chain(0, 3, 1, 1), 2);
        check.fails("nobody", NOBODY, () -> x.chain(0, 5, 0, -2));
        check.fails("both one", WRONG, () -> x.chain(1, 1, 1, NONE));
        check.fails("n 0", WRONG, () -> x.chain(0, 1, 0, NONE));
        check.fails("n 100", WRONG, () -> x.chain(0, 1, 100, NONE));
        check.fails("k below", WRONG, () -> x.chain(0, 1, 1, -2));
    }

    private void promise29Ring() {
        FavourTown x = Check.told(FOUR, "person 1;person 1;person 1");
        due("two", Check.ring(x, "ab"), 0);
        due("six", Check.ring(x, "gfedcb"), 1);
        String[] wrongs = {"", "a", "aa", "aba", "ah", "a ", "aA", "abcdefg", "ab\u00e1", "`a"};
        for (String row : wrongs) {
            check.fails("ring " + row, WRONG, () -> Check.ring(x, row));
            due("the tape is used up", x.end(1), false);
        }
        due("none came", x.count(6), 2);
        for (int k = 2; k < 8; k++) {
            due("ring " + k, Check.ring(x, "ab"), k);
        }
        check.fails("a 9th", FULL, () -> Check.ring(x, "ab"));
        due("the tape is used up by the 9th", x.end(1), false);
        check.fails("a 9th that is none", WRONG, () -> Check.ring(x, "aa"));
        due("rings", x.count(6), 8);
    }

    private void promise30Clear() {
        FavourTown x = Check.told(FOUR, "give 0 to 1 5;give 1 to 0 9;give 1 to 2 4;give 2 to 0 6;give 0 to 1 2");
        due("without rings", x.clear(NONE), 0);
        due("no first", x.clear(0), NONE);
        Check.ring(x, "ab");
        due("one ring", x.clear(NONE), 14);
        Check.ring(x, "abc");
        // ab first clears 7 twice, and nothing is left; abc first clears 4 thrice, and then 3 twice
        due("the better order", x.clear(NONE), 18);
        due("first", x.clear(0), 1);
        due("second", x.clear(1), 0);
        due("behind", x.clear(2), NONE);
        Check.ring(x, "cd");
        due("one that clears nothing", x.clear(NONE), 18);
        due("the first such order", x.clear(0) * 100 + x.clear(1) * 10 + x.clear(2), 102);
        Check.ring(x, "ba");
        due("the same ring once more", x.clear(0) * 1000 + x.clear(1) * 100 + x.clear(2) * 10 + x.clear(3), 1023);
        due("nothing stays", x.owes(0, 1), 7);
        check.fails("k below", WRONG, () -> x.clear(-2));
        x.forgive(-1);
        due("nothing owed", x.clear(NONE), 0);
        due("then the first order of all", x.clear(0), 0);
    }

    private void promise31And32Loss() {
        FavourTown x = Check.told(FOUR + ";give 0 to 1 8;pass 0 to 2;pass 0 to 3;pass 0 to 2;give 0 to 3 2;pass 1 to 2");
        due("by 1", x.loss(2, 1), 4096);
        due("by 3, of two favours", x.loss(2, 3), 1024 + 1024);
        due("of 3 by 2", x.loss(3, 2), 2048);
        due("a gift is no loss", x.loss(1, 0), 0);
        due("by oneself", x.loss(2, 2), 0);
        due("ruined", x.ruined(2), 1);
        due("ruined 3", x.ruined(3), 2);
        due("not ruined", x.ruined(1), NONE);
        x.pass(0, 0);
        due("the giver loses nothing", x.loss(0, 2), 0);
        due("nor is ruined", x.ruined(0), NONE);
        x.forgive(-1);
        due("what is gone counts still", x.loss(2, 1), 4096);
        Check.town(x, "give 1 to 3 8;pass 2 to 2;give 1 to 0 4;pass 3 to 2");
        due("of several the greatest", x.ruined(2), 3);
        FavourTown y = Check.told(FOUR + ";give 0 to 3 4;pass 0 to 2;give 0 to 1 4;pass 1 to 2");
        due("of several alike the least", y.ruined(2), 1);
        FavourTown z = Check.told(THREE + ";give 0 to 1 1");
        for (int k = 0; k < 9; k++) {
            z.pass(0, 2 - k % 2);
        }
        z.days(1);
        due("behind nine hands", z.look(0, 4), 2);
        Check.town(z, "person 1;pass 0 to 3");
        due("the least loss", z.loss(3, 2), 1);
        due("ruins", z.ruined(3), 2);
        check.fails("loss of nobody", NOBODY, () -> y.loss(4, 0));
        check.fails("loss by nobody", NOBODY, () -> y.loss(0, -1));
        check.fails("ruined nobody", NOBODY, () -> y.ruined(4));
        check.fails("ruined below", NOBODY, () -> y.ruined(-1));
    }

    private void promise33Fits() {
        FavourTown x = Check.told(THREE + ";give 2 to 1 9;pass 0 to 0;pass 0 to 2");
        due("it", Check.fits(x, 0, "cbac"), NONE);
        due("the tape is used up", x.end(1), false);
        due("shorter", Check.fits(x, 0, "cba"), 3);
        due("longer", Check.fits(x, 0, "cbaca"), 4);
        due("nothing", Check.fits(x, 0, ""), 0);
        due("at first", Check.fits(x, 0, "abac"), 0);
        due("at the last", Check.fits(x, 0, "cbab"), 3);
        due("a byte that is nobody's", Check.fits(x, 0, "c\u0000ac"), 1);
        due("shorter and wrong", Check.fits(x, 0, "cc"), 1);
        check.fails("no such favour", NOBODY, () -> Check.fits(x, 1, "cbac"));
        due("the tape is used up by what throws", x.end(1), false);
        check.fails("none", NOBODY, () -> Check.fits(x, -1, "cbac"));
    }

    private void promise34Play() {
        FavourTown x = Check.told("person 20;person 20;person 20;give 0 to 1 8 for 2");
        int seed = 1;
        due("0 days: left", x.play(seed, 0, 3), 1);
        due("0 days: rich", x.play(seed, 0, 4), 8192);
        due("0 days: richest", x.play(seed, 0, 5), 1);
        for (int what = 0; what < 3; what++) {
            due("0 days: " + what, x.play(seed, 0, what), 0);
        }
        // seed 1, as it goes round: 1103527590, 2524885223, 662824084, 3295386010 ..: draws 16838, 5758, 10113, 17515,
        // 31051, 5627 ..: 0 asks 2 (16838 % 3) for 5758 % 9 + 1 = 8: given; 1 asks 0 (10113 % 3) for 17515 % 9 + 1 = 2:
        // 0 gave it, so 1 gives; 2 asks 1 (31051 % 3) for 5627 % 9 + 1 = 3: it holds 8 of 0, worth 4 then: passed
        due("1 day: passed", x.play(1, 1, 0), 1);
        due("1 day: given", x.play(1, 1, 1), 2);
        due("1 day: unmet", x.play(1, 1, 2), 0);
        due("1 day: left", x.play(1, 1, 3), 3);
        due("1 day: rich", x.play(1, 1, 4), 8192 + 2048 + 4096);
        due("1 day: richest", x.play(1, 1, 5), 1);
        due("nothing stays", x.count(3) * 100 + x.count(7), 100);
        check.fails("days 61", WRONG, () -> x.play(1, 61, 9));
        check.fails("days below", WRONG, () -> x.play(1, -1, 0));
        check.fails("what 6", NO_SUCH, () -> x.play(1, 0, 6));
        check.fails("what below", NO_SUCH, () -> x.play(1, 0, -1));
        FavourTown none = new FavourTown();
        int[] want = {0, 0, 0, 0, 0, NONE};
        for (int what = 0; what < want.length; what++) {
            due("nobody plays " + what, none.play(-7, 60, what), want[what]);
        }
        FavourTown one = Check.told("person 9");
        due("one alone", one.play(5, 60, 0) + one.play(5, 60, 1) + one.play(5, 60, 2), 0);
        due("one alone is the richest", one.play(5, 60, 5), 0);
        FavourTown poor = Check.told("person 0;person 0");
        due("none can be met", poor.play(1, 20, 2) > 0 && poor.play(1, 20, 0) + poor.play(1, 20, 1) == 0, true);
        due("of several the least", poor.play(1, 20, 5), 0);
    }

    private void promise35And36Image() {
        FavourTown x = Check.told(THREE + ";near 0 1;give 0 to 1 8;need 0 of 1 1");
        due("no image yet", x.back(), false);
        Check.temper(x, "take");
        Check.ring(x, "ab");
        x.has(2, 0);
        x.image();
        int[] counts = new int[10];
        for (int what = 0; what < 10; what++) {
            counts[what] = x.count(what);
        }
        Check.temper(x, "refuse");
        Check.ring(x, "bc");
        x.has(2, 1);
        Check.town(x, "person 3;near 1 2;law 3;pass 0 to 0;give 1 to 0 5 forced;days 3;need 1 of 0 9;call 1");
        x.feed(0, 0, 0, 0, 0);
        due("back", x.back(), true);
        for (int what = 0; what < 10; what++) {
            due("back: count " + what, x.count(what), counts[what]);
        }
        due("the tape stays", x.end(20), true);
        due("holder", x.look(0, 1), 1);
        due("row", x.hand(0, 2), NONE);
        due("rich", x.rich(1), 8192);
        due("temper", x.has(2, NONE), 0);
        due("ring", x.clear(1), NONE);
        x.call(0);
        due("back once more", x.back(), true);
        due("the image stays", x.look(0, 1), 1);
        due("the temper again", x.has(2, NONE), 0);
        Check.temper(x, "refuse");
        x.image();
        x.call(0);
        x.image();
        x.back();
        due("a new image", x.count(4), 0);
        // a temper told behind the way back does not change the one of the image
        FavourTown y = Check.told("person 9;person 9");
        y.image();
        Check.temper(y, "refuse");
        y.back();
        Check.temper(y, "take");
        y.has(1, 0);
        due("the later one", y.give(0, 1, 1, 0, false), 0);
    }

    private void promise37Count() {
        FavourTown x = Check.told(FOUR, "near 0 1;near 2 1;law 7;give 0 to 1 3;give 1 to 0 3;call 0;need 0 of 1 1;days 9");
        Check.temper(x, "take");
        Check.ring(x, "ab");
        Check.ring(x, "abc");
        Check.ring(x, "bc");
        int[] counts = {4, 2, 1, 2, 1, 1, 3, 9, 7, 2};
        for (int what = 0; what < counts.length; what++) {
            due("count " + what, x.count(what), counts[what]);
        }
        due("count 10", x.count(10), NONE);
        due("count -1", x.count(-1), NONE);
        due("count far", x.count(Integer.MIN_VALUE), NONE);
    }
}
