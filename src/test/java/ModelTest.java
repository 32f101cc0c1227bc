/** Runs of drawn calls, each answered by the program and by the Model. */
public final class ModelTest {
    private static final String[] MEASURES = {"worth", "amount", "hands", "left", "owed", "debt"};

    private final Check check = new Check("ModelTest");
    private long seed;
    private FavourTown x;
    private Model m;
    private int people;

    public static void main(String[] args) {
        int runs = args.length > 0 ? Integer.parseInt(args[0]) : 300;
        int from = args.length > 1 ? Integer.parseInt(args[1]) : 1;
        ModelTest test = new ModelTest();
        for (int run = from; run < from + runs; run++) {
            test.run(run);
        }
        test.check.end();
    }

    private int draw(int below) {
        seed = seed * 6364136223846793005L + 1442695040888963407L;
        return (int) ((seed >>> 33) % below);
    }

    private void run(int number) {
        seed = number * 7919L;
        x = new FavourTown();
        m = new Model();
        people = 2 + draw(number % 10 == 0 ? 11 : 5);
        StringBuilder text = new StringBuilder();
        for (int p = 0; p < people; p++) {
            text.append(p == 0 ? "" : ";").append("person ").append(draw(4) == 0 ? draw(20) : draw(400));
        }
        if (draw(15) != 0) {
            tell(text.toString(), "town");
        }
        if (number % 3 == 0) {
            fill();
        } else if (number % 3 == 1) {
            indebt();
        }
        int calls = 60 + draw(300);
        for (int k = 0; k < calls; k++) {
            step(number);
        }
    }

    /** A town with many favours from the start, so that there is much to flow, to chain and to clear. */
    private void fill() {
        StringBuilder limits = new StringBuilder("person 999");
        for (people = 1; people < 4 + (int) (seed >>> 40) % 3; people++) {
            limits.append(";person 999");
        }
        x = new FavourTown();
        m = new Model();
        tell(limits.toString(), "town");
        for (int k = 0; k < 36; k++) {
            int a = draw(people);
            int b = draw(people);
            int amount = 1 + draw(draw(2) == 0 ? 8 : 99);
            same("fill", () -> x.give(a, b, amount, 0, false), () -> m.give(a, b, amount, 0, false));
        }
        for (int k = 0; k < 12; k++) {
            tell(rowText(2 + draw(3)), "ring");
        }
        tell("take if worth>" + draw(9) + ";take if near", "temper");
    }

    /** A town in which most owe all they may, so that needs are met by forgiving alone. */
    private void indebt() {
        x = new FavourTown();
        m = new Model();
        people = 4 + draw(4);
        StringBuilder text = new StringBuilder("person 12");
        for (int p = 1; p < people; p++) {
            text.append(";person ").append(8 + draw(20));
        }
        tell(text.toString(), "town");
        for (int k = 0; k < 36; k++) {
            int a = draw(people);
            int b = draw(people);
            int amount = 1 + draw(9);
            same("indebt", () -> x.give(a, b, amount, 0, false), () -> m.give(a, b, amount, 0, false));
        }
        tell("take if owed<" + (3 + draw(20)) + " or near", "temper");
        for (int p = 0; p < people; p += 2) {
            int who = p;
            same("indebt", () -> x.has(who, 0), () -> m.has(who, 0));
        }
        for (int k = 0; k < 4; k++) {
            int a = draw(people);
            int b = (a + 1 + draw(people - 1)) % people;
            tell("need " + a + " of " + b + " " + (6 + draw(9)), "town");
            same("fewest", () -> x.fewest(), () -> m.fewest());
        }
    }

    private int person() {
        return draw(40) == 0 ? draw(16) - 2 : draw(people);
    }

    private int favour() {
        return draw(25) == 0 ? draw(44) - 2 : draw(Math.max(1, x.count(3)));
    }

    private int set() {
        return draw(12) == 0 ? (int) seed : draw(1 << people);
    }

    private int wholes() {
        return draw(30) == 0 ? draw(110) - 5 : draw(4) == 0 ? 1 + draw(99) : 1 + draw(20);
    }

    private void same(String what, Check.Call of, Check.Call model) {
        String got = Check.answer(of);
        String want = Check.answer(model);
        if (!got.equals(want)) {
            check.fail(what + " answered " + got + ", the model " + want);
        }
    }

    private void tell(String text, String call) {
        Check.write(x, text);
        m.write(text);
        String what = call + " \"" + text + "\"";
        if (call.equals("town")) {
            same(what, () -> x.town(), () -> m.town());
        } else if (call.equals("temper")) {
            same(what, () -> x.temper(), () -> m.temper());
        } else {
            same(what, () -> x.ring(), () -> m.ring());
        }
        same("fault of " + what, () -> x.fault(), () -> m.fault());
    }

    private static int bit(boolean is) {
        return is ? 1 : 0;
    }

    private void step(int run) {
        int a = person();
        int b = person();
        int f = favour();
        int n = wholes();
        int set = set();
        int k = draw(10) - 2;
        String at = "run " + run + ": ";
        switch (draw(36)) {
            case 0: case 1: case 2: case 3: {
                int days = draw(3) == 0 ? draw(20) : draw(60) == 0 ? draw(120) - 10 : 0;
                boolean forced = draw(5) == 0;
                same(at + "give", () -> x.give(a, b, n, days, forced), () -> m.give(a, b, n, days, forced));
                break;
            }
            case 4: case 5: case 6: case 7: case 8:
                same(at + "pass", () -> x.pass(f, a), () -> m.pass(f, a));
                break;
            case 9:
                if (draw(4) == 0) {
                    same(at + "call", () -> x.call(f), () -> m.call(f));
                } else {
                    same(at + "hand", () -> x.hand(f, k), () -> m.hand(f, k));
                }
                break;
            case 10: {
                int days = draw(10) == 0 ? draw(120) - 10 : 1 + draw(4);
                same(at + "days", () -> x.days(days), () -> m.days(days));
                break;
            }
            case 11: case 12:
                tell(townText(), "town");
                break;
            case 13:
                tell(temperText(), "temper");
                break;
            case 14: {
                int temper = draw(Math.max(1, x.count(2)) + 2) - 1;
                same(at + "has", () -> x.has(a, temper), () -> m.has(a, temper));
                break;
            }
            case 15:
                same(at + "pays", () -> x.pays(a, b, n), () -> m.pays(a, b, n));
                break;
            case 16:
                same(at + "can", () -> bit(x.can(k)), () -> bit(m.can(k)));
                break;
            case 17:
                same(at + "meet", () -> x.meet(k), () -> m.meet(k));
                break;
            case 18:
                same(at + "enough", () -> bit(x.enough(set)), () -> bit(m.enough(set)));
                break;
            case 19:
                same(at + "witness", () -> x.witness(set), () -> m.witness(set));
                break;
            case 20:
                if (people < 8 || draw(10) == 0) {
                    same(at + "fewest", () -> x.fewest(), () -> m.fewest());
                }
                break;
            case 21:
                if (draw(3) == 0) {
                    same(at + "forgive", () -> x.forgive(set), () -> m.forgive(set));
                }
                break;
            case 22:
                same(at + "port", () -> x.port(a, b), () -> m.port(a, b));
                break;
            case 23:
                same(at + "most", () -> x.most(a, b), () -> m.most(a, b));
                break;
            case 24:
                same(at + "cut", () -> x.cut(a, b), () -> m.cut(a, b));
                break;
            case 25: {
                int few = draw(3) == 0 ? n : 1 + draw(4);
                same(at + "chain", () -> x.chain(a, b, few, k), () -> m.chain(a, b, few, k));
                break;
            }
            case 26:
                tell(rowText(2 + draw(3)), "ring");
                break;
            case 27:
                if (x.count(6) < 7 || draw(6) == 0) {
                    same(at + "clear", () -> x.clear(k), () -> m.clear(k));
                }
                break;
            case 28:
                same(at + "loss", () -> x.loss(a, b), () -> m.loss(a, b));
                break;
            case 29:
                same(at + "ruined", () -> x.ruined(a), () -> m.ruined(a));
                break;
            case 30:
                fits(at, f);
                break;
            case 31: {
                int seedOfPlay = (int) seed;
                int days = draw(60) == 0 ? draw(70) - 5 : draw(15);
                int what = draw(30) == 0 ? draw(9) - 2 : draw(6);
                same(at + "play", () -> x.play(seedOfPlay, days, what), () -> m.play(seedOfPlay, days, what));
                break;
            }
            case 32:
                if (draw(4) == 0) {
                    x.image();
                    m.image();
                }
                break;
            case 33:
                if (draw(5) == 0) {
                    same(at + "back", () -> bit(x.back()), () -> bit(m.back()));
                }
                break;
            case 34:
                same(at + "owes", () -> x.owes(a, b), () -> m.owes(a, b));
                same(at + "takes", () -> bit(x.takes(a, f)), () -> bit(m.takes(a, f)));
                break;
            default:
                compareAll(at);
                break;
        }
    }

    private void compareAll(String at) {
        for (int what = -1; what <= 10; what++) {
            int w = what;
            same(at + "count " + w, () -> x.count(w), () -> m.count(w));
        }
        for (int p = -1; p <= x.count(0); p++) {
            int who = p;
            same(at + "rich", () -> x.rich(who), () -> m.rich(who));
            same(at + "debt", () -> x.debt(who), () -> m.debt(who));
        }
        for (int f = -1; f <= x.count(3); f++) {
            for (int what = -1; what <= 7; what++) {
                int which = f;
                int w = what;
                same(at + "look " + which + " " + w, () -> x.look(which, w), () -> m.look(which, w));
            }
        }
    }

    private void fits(String at, int f) {
        StringBuilder row = new StringBuilder();
        int length = draw(13);
        for (int k = 0; k < length; k++) {
            int right = f >= 0 && f < x.count(3) ? x.hand(f, k) : -1;
            if (right >= 0 && draw(8) != 0) {
                row.append((char) (97 + right));
            } else if (draw(3) == 0) {
                row.append((char) (97 + draw(people)));
            }
        }
        Check.write(x, row.toString());
        m.write(row.toString());
        same(at + "fits " + row, () -> x.fits(f), () -> m.fits(f));
    }

    private String rowText(int length) {
        StringBuilder row = new StringBuilder();
        for (int k = 0; k < length; k++) {
            char c = (char) (97 + (draw(30) == 0 ? draw(14) - 1 : draw(people)));
            if (row.indexOf(String.valueOf(c)) < 0 || draw(12) == 0) {
                row.append(c);
            }
        }
        return row.toString();
    }

    private String gap() {
        return draw(4) == 0 ? "  " : " ";
    }

    private String townText() {
        StringBuilder text = new StringBuilder();
        int lines = draw(10) == 0 ? draw(17) : 1 + draw(4);
        for (int k = 0; k < lines; k++) {
            text.append(k == 0 ? "" : draw(5) == 0 ? " ; " : ";");
            text.append(townLine());
        }
        return damaged(text);
    }

    private String townLine() {
        int a = person();
        int b = (a + 1 + draw(Math.max(1, people - 1))) % people;
        String two = Math.max(0, a) + gap();
        switch (draw(12)) {
            case 0: return draw(6) == 0 ? "person" + gap() + draw(1005) : "law 10";
            case 1: case 2: return "near" + gap() + two + b;
            case 3: return "law" + gap() + draw(11);
            case 4: case 5: case 6:
                return "give " + two + "to" + gap() + b + " " + (1 + draw(30))
                    + (draw(3) == 0 ? " for" + gap() + (1 + draw(9)) : "") + (draw(3) == 0 ? " forced" : "");
            case 7: return "pass " + Math.max(0, favour()) + gap() + "to " + b;
            case 8: return draw(3) == 0 ? "call " + Math.max(0, favour()) : "days 1";
            case 9: return "days " + (1 + draw(3));
            default: return "need " + two + "of " + b + gap() + (1 + draw(25));
        }
    }

    private String temperText() {
        StringBuilder text = new StringBuilder();
        int lines = draw(10) == 0 ? draw(15) : 1 + draw(4);
        for (int k = 0; k < lines; k++) {
            text.append(k == 0 ? "" : ";").append(draw(3) == 0 ? "refuse" : "take");
            text.append(draw(5) == 0 ? "" : " if " + condition(draw(3)));
        }
        return damaged(text);
    }

    private String condition(int deep) {
        switch (draw(deep > 8 ? 5 : 9)) {
            case 0: return "near";
            case 1: return "timed";
            case 2: return "again";
            case 3: case 4: return sum() + (draw(2) == 0 ? "<" : gap() + ">") + sum();
            case 5: return "not " + condition(deep + 1);
            case 6: return "(" + condition(deep + 1) + gap() + ")";
            case 7: return condition(deep + 2) + " or " + condition(deep + 2);
            default: return condition(deep + 2) + " and " + condition(deep + 2);
        }
    }

    private String sum() {
        String part = draw(2) == 0 ? Integer.toString(draw(60)) : MEASURES[draw(6)];
        return draw(4) == 0 ? part + "+" + sum() : part;
    }

    private String damaged(StringBuilder text) {
        if (text.length() > 400) {
            text.setLength(400);
        }
        if (text.length() > 0 && draw(5) == 0) {
            String signs = "  ;()<>+019az~\u00e9\t";
            int at = draw(text.length());
            switch (draw(3)) {
                case 0: text.deleteCharAt(at); break;
                case 1: text.setCharAt(at, signs.charAt(draw(signs.length()))); break;
                default: text.setLength(at); break;
            }
        }
        return text.toString();
    }
}
