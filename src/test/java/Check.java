/** Compares answers with those that are due, and tells texts to a town through its tape. */
final class Check {
    interface Call {
        long run();
    }

    private final String name;
    private String about = "";
    private int wrong;

    Check(String name) {
        this.name = name;
    }

    /** What is told ahead of each answer that is wrong from now on. */
    void about(String what) {
        about = what + ": ";
    }

    void due(String what, long got, long want) {
        if (got != want) {
            fail(what + " answered " + got + ", due is " + want);
        }
    }

    void due(String what, boolean got, boolean want) {
        due(what, got ? 1 : 0, want ? 1 : 0);
    }

    void fail(String what) {
        wrong++;
        System.out.println(name + ": " + about + what);
    }

    void fails(String what, Class<? extends RuntimeException> want, Call call) {
        String got = answer(call);
        if (!got.equals("throws " + want.getSimpleName())) {
            fail(what + " " + got + ", due is throws " + want.getSimpleName());
        }
    }

    /** Ends the test's program, with 1 if an answer was wrong. */
    void end() {
        System.out.println(name + (wrong == 0 ? ": all answers are as due" : ": " + wrong + " answers are wrong"));
        if (wrong != 0) {
            System.exit(1);
        }
    }

    static String answer(Call call) {
        try {
            return Long.toString(call.run());
        } catch (RuntimeException e) {
            return "throws " + e.getClass().getSimpleName();
        }
    }

    /** The text on the tape of x, whatever was on it. */
    static void write(FavourTown x, String text) {
        x.end(0);
        for (int at = 0; at < text.length(); at += 20) {
            x.feed(four(text, at), four(text, at + 4), four(text, at + 8), four(text, at + 12), four(text, at + 16));
        }
        x.end(text.length());
    }

    private static int four(String text, int from) {
        int number = 0;
        for (int k = from; k < from + 4; k++) {
            number = number << 8 | (k < text.length() ? text.charAt(k) & 255 : 'z');
        }
        return number;
    }

    static int town(FavourTown x, String text) {
        write(x, text);
        return x.town();
    }

    static int temper(FavourTown x, String text) {
        write(x, text);
        return x.temper();
    }

    static int ring(FavourTown x, String row) {
        write(x, row);
        return x.ring();
    }

    static int fits(FavourTown x, int favour, String row) {
        write(x, row);
        return x.fits(favour);
    }

    static FavourTown told(String... texts) {
        FavourTown x = new FavourTown();
        for (String text : texts) {
            town(x, text);
        }
        return x;
    }

    void wrongTown(FavourTown x, String text, int fault) {
        fails("town \"" + text + "\"", IllegalArgumentException.class, () -> town(x, text));
        due("fault of \"" + text + "\"", x.fault(), fault);
    }

    void rightTown(FavourTown x, String text) {
        String got = answer(() -> town(x, text));
        if (got.startsWith("throws")) {
            fail("town \"" + text + "\" " + got + " at " + x.fault());
        }
        due("fault of \"" + text + "\"", x.fault(), FavourTown.NONE);
    }

    void wrongTemper(String text, int fault) {
        FavourTown x = new FavourTown();
        fails("temper \"" + text + "\"", IllegalArgumentException.class, () -> temper(x, text));
        due("fault of \"" + text + "\"", x.fault(), fault);
        due("tempers behind \"" + text + "\"", x.count(2), 0);
    }

    void rightTemper(String text) {
        FavourTown x = new FavourTown();
        String got = answer(() -> temper(x, text));
        if (!got.equals("0")) {
            fail("temper \"" + text + "\" " + got + " at " + x.fault());
        }
        due("fault of \"" + text + "\"", x.fault(), FavourTown.NONE);
    }
}
