import java.util.NoSuchElementException;

/** What the tests of the document's sentences share: each method with a Sentence is a test. */
abstract class Edges {
    interface On {
        long run(FavourTown x);
    }

    static final int NONE = -1;
    static final Class<IndexOutOfBoundsException> NOBODY = IndexOutOfBoundsException.class;
    static final Class<IllegalArgumentException> WRONG = IllegalArgumentException.class;
    static final Class<UnsupportedOperationException> FULL = UnsupportedOperationException.class;
    static final Class<NoSuchElementException> NO_SUCH = NoSuchElementException.class;

    Check check;

    void due(String what, long got, long want) {
        check.due(what, got, want);
    }

    void yes(String what, boolean got) {
        check.due(what, got, true);
    }

    void no(String what, boolean got) {
        check.due(what, got, false);
    }

    void fails(String what, Class<? extends RuntimeException> want, Check.Call call) {
        check.fails(what, want, call);
    }

    static long bit(boolean is) {
        return is ? 1 : 0;
    }

    static String times(int n, String line) {
        StringBuilder text = new StringBuilder();
        for (int k = 0; k < n; k++) {
            text.append(k == 0 ? "" : ";").append(line);
        }
        return text.toString();
    }

    /** So many PEOPLE of one LIMIT. */
    static FavourTown people(int n, int limit) {
        return Check.told(times(n, "person " + limit));
    }

    static FavourTown people(int n, int limit, String... texts) {
        FavourTown x = people(n, limit);
        for (String text : texts) {
            Check.town(x, text);
        }
        return x;
    }

    /** 40 FAVOURS, all given by 0 to 1, the first of the amount told, the others of 1. */
    static void fillWithFavours(FavourTown x, int amount) {
        for (int k = x.count(3); k < 40; k++) {
            x.give(0, 1, k == 0 ? amount : 1, 0, true);
        }
    }

    static void has(FavourTown x, int person, String temper) {
        x.has(person, Check.temper(x, temper));
    }

    /** Whether the PERSON would take the FAVOUR by this condition; it makes THE IMAGE anew. */
    static boolean takesIf(FavourTown x, String condition, int person, int favour) {
        x.image();
        has(x, person, "take if " + condition);
        boolean taken = x.takes(person, favour);
        x.back();
        return taken;
    }

    static String just(String measure, int value) {
        return measure + "+1>" + value + " and " + measure + "<" + value + "+1";
    }

    void measures(FavourTown x, String measure, int value, int person, int favour) {
        yes(measure + " of " + favour + " for " + person + " is " + value, takesIf(x, just(measure, value), person, favour));
    }

    static boolean givenIf(FavourTown x, String condition, int amount, int days) {
        x.image();
        has(x, 1, "take if " + condition);
        boolean given = x.give(0, 1, amount, days, false) != NONE;
        x.back();
        return given;
    }

    /** All that can be seen of a town but for the TAPE, fault() and THE IMAGE. */
    static String seen(FavourTown x) {
        StringBuilder all = new StringBuilder();
        for (int what = 0; what < 10; what++) {
            all.append(x.count(what)).append(' ');
        }
        for (int favour = 0; favour < x.count(3); favour++) {
            all.append("| ");
            for (int what = 0; what < 7; what++) {
                all.append(x.look(favour, what)).append(' ');
            }
            for (int k = 0; x.hand(favour, k) != NONE; k++) {
                all.append((char) (97 + x.hand(favour, k)));
            }
        }
        for (int person = 0; person < x.count(0); person++) {
            all.append("| ").append(x.rich(person)).append(' ').append(x.debt(person));
        }
        for (int need = 0; need < x.count(5); need++) {
            all.append(x.can(need) ? " can" : " cannot");
        }
        return all.append("| ").append(x.clear(NONE)).toString();
    }

    /** Whether the TAPE is empty; what stood on it is gone by the asking. */
    static boolean tapeIsEmpty(FavourTown x) {
        return !x.end(1);
    }
}
