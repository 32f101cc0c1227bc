/** The example of README.md: a small town, told by its tape. */
public final class Example {
    public static void main(String[] args) {
        FavourTown x = new FavourTown();

        write(x, "person 20; person 9; person 30; near 0 2");
        System.out.println("town() = " + x.town());
        System.out.println("give(0, 1, 8, 0, false) = " + x.give(0, 1, 8, 0, false));
        System.out.println("debt(0) = " + x.debt(0));
        System.out.println("rich(1) = " + x.rich(1));
        System.out.println("pass(0, 2) = " + x.pass(0, 2));
        System.out.println("give(1, 2, 10, 0, false) = " + x.give(1, 2, 10, 0, false));

        write(x, "refuse if hands > 1 and not near; take");
        System.out.println("temper() = " + x.temper());
        System.out.println("has(1, 0) = " + x.has(1, 0));
        System.out.println("pass(0, 1) = " + x.pass(0, 1));

        write(x, "need 2 of 0 3; need 2 of 3 1");
        try {
            System.out.println("town() = " + x.town());
        } catch (IllegalArgumentException e) {
            System.out.println("fault() = " + x.fault());
        }
        System.out.println("count(5) = " + x.count(5));

        write(x, "need 2 of 0 3");
        System.out.println("town() = " + x.town());
        System.out.println("meet(0) = " + x.meet(0));
        System.out.println("look(1, 0) = " + x.look(1, 0));
    }

    /** Puts a text on the tape, whatever was on it. */
    private static void write(FavourTown x, String text) {
        x.end(0);
        for (int k = 0; k < text.length(); k += 20) {
            x.feed(four(text, k), four(text, k + 4), four(text, k + 8), four(text, k + 12), four(text, k + 16));
        }
        x.end(text.length());
    }

    /** Four signs of the text as one number, the first one highest; behind the text's end zeros. */
    private static int four(String text, int from) {
        int number = 0;
        for (int k = from; k < from + 4; k++) {
            number = number << 8 | (k < text.length() ? text.charAt(k) : 0);
        }
        return number;
    }
}
