import java.util.ArrayList;
import java.util.Arrays;
import java.util.List;
import java.util.NoSuchElementException;
import java.util.function.Predicate;
import java.util.function.ToIntFunction;
import java.util.regex.Matcher;
import java.util.regex.Pattern;

/** The document once more, in its slowest and plainest form: all is counted anew for each question. */
final class Model {
    static final class Favour {
        int giver;
        int amount;
        int holder;
        int end;
        boolean forced;
        List<Integer> row = new ArrayList<>();

        int hands() {
            return row.size() - 2;
        }

        int worth() {
            return worth(hands());
        }

        int worth(int hands) {
            int worth = amount * 1024;
            for (int k = 0; k < hands; k++) {
                worth /= 2;
            }
            return worth;
        }

        Favour copy() {
            Favour other = new Favour();
            other.giver = giver;
            other.amount = amount;
            other.holder = holder;
            other.end = end;
            other.forced = forced;
            other.row = new ArrayList<>(row);
            return other;
        }
    }

    record Passed(int from, int to, int lost, boolean toGiver) { }

    record Need(int by, int of, int wholes) { }

    record Facts(int worth, int amount, int hands, int left, int owed, int debt,
        boolean near, boolean timed, boolean again) { }

    record Line(boolean take, Predicate<Facts> when) { }

    static final class State {
        List<Integer> limits = new ArrayList<>();
        List<Integer> temperOf = new ArrayList<>();
        boolean[][] near = new boolean[12][12];
        List<Favour> favours = new ArrayList<>();
        List<Passed> passes = new ArrayList<>();
        List<Need> needs = new ArrayList<>();
        List<List<Line>> tempers = new ArrayList<>();
        List<List<Integer>> rings = new ArrayList<>();
        int texts;
        int day;
        int law = 10;

        State copy() {
            State o = new State();
            o.limits.addAll(limits);
            o.temperOf.addAll(temperOf);
            for (int k = 0; k < 12; k++) {
                o.near[k] = near[k].clone();
            }
            for (Favour f : favours) {
                o.favours.add(f.copy());
            }
            o.passes.addAll(passes);
            o.needs.addAll(needs);
            o.tempers.addAll(tempers);
            o.rings.addAll(rings);
            o.texts = texts;
            o.day = day;
            o.law = law;
            return o;
        }

        int rich(int person) {
            return favours.stream().filter(f -> f.holder == person).mapToInt(Favour::worth).sum();
        }

        int debt(int person) {
            return favours.stream().filter(f -> f.giver == person && f.holder >= 0).mapToInt(f -> f.amount).sum();
        }

        boolean tempered(int person, boolean forced, int giver, int amount, int hands, int left, boolean timed, boolean again) {
            if (forced) {
                return true;
            }
            int number = temperOf.get(person);
            if (number < 0) {
                return true;
            }
            int worth = amount * 1024;
            for (int k = 0; k < hands; k++) {
                worth /= 2;
            }
            Facts facts = new Facts(worth / 1024, amount, hands, left, rich(person) / 1024, debt(giver),
                near[person][giver], timed, again);
            for (Line line : tempers.get(number)) {
                if (line.when.test(facts)) {
                    return line.take;
                }
            }
            return false;
        }

        boolean takes(int person, Favour f) {
            boolean again = f.row.subList(1, f.row.size()).contains(person);
            return tempered(person, f.forced, f.giver, f.amount, f.hands() + 1,
                f.end < 0 ? 999 : f.end - day, f.end >= 0, again);
        }

        boolean mayGive(int from, int to, int amount, int days, boolean forced) {
            return debt(from) + amount <= limits.get(from) && favours.size() < 40
                && tempered(to, forced, from, amount, 0, days == 0 ? 999 : days, days != 0, false);
        }

        int give(int from, int to, int amount, int days, boolean forced) {
            if (!mayGive(from, to, amount, days, forced)) {
                return -1;
            }
            Favour f = new Favour();
            f.giver = from;
            f.amount = amount;
            f.holder = to;
            f.end = days == 0 ? -1 : day + days;
            f.forced = forced;
            f.row.add(from);
            f.row.add(to);
            favours.add(f);
            return favours.size() - 1;
        }

        boolean mayPass(Favour f, int to) {
            return f.holder >= 0 && f.holder != to && f.hands() < law && (f.giver == to || takes(to, f));
        }

        int pass(Favour f, int to) {
            if (!mayPass(f, to)) {
                return -1;
            }
            int before = f.worth();
            int from = f.holder;
            f.row.add(to);
            passes.add(new Passed(from, to, before - f.worth(), to == f.giver));
            f.holder = to == f.giver ? -1 : to;
            return f.holder < 0 ? 0 : f.worth();
        }

        int call(Favour f) {
            int worth = f.holder < 0 ? -1 : f.worth();
            f.holder = -1;
            return worth;
        }

        int days(int n) {
            int gone = 0;
            for (int k = 0; k < n; k++) {
                day++;
                for (Favour f : favours) {
                    if (f.holder >= 0 && f.end >= 0 && f.end <= day) {
                        f.holder = -1;
                        gone++;
                    }
                }
            }
            return gone;
        }

        int pays(int first, int second, int n) {
            int best = -1;
            for (int k = favours.size() - 1; k >= 0; k--) {
                Favour f = favours.get(k);
                if (f.holder == first && f.giver != second && mayPass(f, second) && f.worth(f.hands() + 1) >= n * 1024
                    && (best < 0 || f.worth(f.hands() + 1) <= favours.get(best).worth(favours.get(best).hands() + 1))) {
                    best = k;
                }
            }
            return best;
        }

        boolean can(Need need) {
            return pays(need.by, need.of, need.wholes) >= 0 || mayGive(need.by, need.of, need.wholes, 0, false);
        }

        int meet(Need need) {
            int favour = pays(need.by, need.of, need.wholes);
            if (favour < 0) {
                return give(need.by, need.of, need.wholes, 0, false);
            }
            pass(favours.get(favour), need.of);
            return favour;
        }

        int forgive(int set) {
            int gone = 0;
            for (Favour f : favours) {
                if (f.holder >= 0 && (set >> f.holder & 1) == 1) {
                    f.holder = -1;
                    gone++;
                }
            }
            return gone;
        }

        int witness(int set) {
            State then = copy();
            then.forgive(set);
            for (int k = 0; k < needs.size(); k++) {
                if (!then.can(needs.get(k))) {
                    return k;
                }
            }
            return -1;
        }

        int port(int from, int to) {
            int sum = 0;
            for (Favour f : favours) {
                if (f.holder == from && f.giver != to && mayPass(f, to)) {
                    sum += f.worth(f.hands() + 1) / 1024;
                }
            }
            return sum;
        }

        int owes(int first, int second) {
            return favours.stream().filter(f -> f.giver == first && f.holder == second).mapToInt(f -> f.amount).sum();
        }

        int loss(int person, int by) {
            return passes.stream().filter(p -> p.from == by && p.to == person && !p.toGiver).mapToInt(Passed::lost).sum();
        }

        int alive() {
            return (int) favours.stream().filter(f -> f.holder >= 0).count();
        }
    }

    /** Where a text is wrong. */
    private static final class Wrong extends Exception {
        private static final long serialVersionUID = 1;
        final int at;

        Wrong(int at) {
            super(null, null, false, false);
            this.at = at;
        }
    }

    record Thing(String text, int at) { }

    /** The things of a text, the last one empty at the text's length. */
    private static final class Things {
        private static final Pattern ONE = Pattern.compile(" *([a-z]+|[0-9]+|[^ ])");
        final List<Thing> all = new ArrayList<>();
        int now;

        Things(String text) {
            Matcher m = Pattern.compile(ONE.pattern(), Pattern.DOTALL).matcher(text);
            while (m.find()) {
                all.add(new Thing(m.group(1), m.start(1)));
            }
            all.add(new Thing("", text.length()));
        }

        String look() {
            return all.get(now).text;
        }

        Wrong wrong() {
            return new Wrong(all.get(now).at);
        }

        void want(String text) throws Wrong {
            if (!look().equals(text)) {
                throw wrong();
            }
            now++;
        }

        boolean next(String text) {
            if (look().equals(text)) {
                now++;
                return true;
            }
            return false;
        }

        int number(int least, int most) throws Wrong {
            if (!look().matches("[0-9]{1,3}") || Integer.parseInt(look()) < least || Integer.parseInt(look()) > most) {
                throw wrong();
            }
            return Integer.parseInt(all.get(now++).text);
        }
    }

    private String tape = "";
    private State s = new State();
    private State kept;
    private int fault = -1;

    void write(String text) {
        tape = text;
    }

    private String use() {
        String text = tape;
        tape = "";
        return text;
    }

    int town() {
        State before = s.copy();
        try {
            Things t = new Things(use());
            fault = -1;
            if (!t.look().isEmpty()) {
                for (int line = 1;; line++) {
                    if (line > 14) {
                        throw t.wrong();
                    }
                    townLine(t);
                    if (t.look().isEmpty()) {
                        break;
                    }
                    t.want(";");
                }
            }
        } catch (Wrong w) {
            fault = w.at;
            s = before;
            throw new IllegalArgumentException();
        }
        if (s.texts == 10) {
            s = before;
            throw new UnsupportedOperationException();
        }
        return ++s.texts;
    }

    private int person(Things t, int but) throws Wrong {
        Wrong here = t.wrong();
        int person = t.number(0, s.limits.size() - 1);
        if (person == but) {
            throw here;
        }
        return person;
    }

    private void townLine(Things t) throws Wrong {
        Wrong here = t.wrong();
        if (t.next("person")) {
            if (s.limits.size() == 12) {
                throw here;
            }
            s.limits.add(t.number(0, 999));
            s.temperOf.add(-1);
        } else if (t.next("near")) {
            int a = person(t, -1);
            int b = person(t, a);
            s.near[a][b] = true;
            s.near[b][a] = true;
        } else if (t.next("law")) {
            s.law = t.number(0, 10);
        } else if (t.next("give")) {
            int a = person(t, -1);
            t.want("to");
            int b = person(t, a);
            int n = t.number(1, 99);
            int d = t.next("for") ? t.number(1, 99) : 0;
            s.give(a, b, n, d, t.next("forced"));
        } else if (t.next("pass")) {
            int f = t.number(0, s.favours.size() - 1);
            t.want("to");
            s.pass(s.favours.get(f), person(t, -1));
        } else if (t.next("call")) {
            s.call(s.favours.get(t.number(0, s.favours.size() - 1)));
        } else if (t.next("days")) {
            s.days(t.number(1, 99));
        } else if (t.next("need")) {
            if (s.needs.size() == 12) {
                throw here;
            }
            int a = person(t, -1);
            t.want("of");
            int b = person(t, a);
            s.needs.add(new Need(a, b, t.number(1, 99)));
        } else {
            throw here;
        }
    }

    int temper() {
        List<Line> lines = new ArrayList<>();
        try {
            Things t = new Things(use());
            fault = -1;
            if (!t.look().isEmpty()) {
                do {
                    if (lines.size() == 12) {
                        throw t.wrong();
                    }
                    boolean take = t.look().equals("take");
                    if (!take && !t.look().equals("refuse")) {
                        throw t.wrong();
                    }
                    t.now++;
                    lines.add(new Line(take, t.next("if") ? any(t, 0) : f -> true));
                    if (!t.look().isEmpty() && !t.look().equals(";")) {
                        throw t.wrong();
                    }
                } while (t.next(";"));
            }
        } catch (Wrong w) {
            fault = w.at;
            throw new IllegalArgumentException();
        }
        if (s.tempers.size() == 6) {
            throw new UnsupportedOperationException();
        }
        s.tempers.add(lines);
        return s.tempers.size() - 1;
    }

    private Predicate<Facts> any(Things t, int deep) throws Wrong {
        Predicate<Facts> all = every(t, deep);
        while (t.next("or")) {
            all = all.or(every(t, deep));
        }
        return all;
    }

    private Predicate<Facts> every(Things t, int deep) throws Wrong {
        Predicate<Facts> all = atom(t, deep);
        while (t.next("and")) {
            all = all.and(atom(t, deep));
        }
        return all;
    }

    private Predicate<Facts> atom(Things t, int deep) throws Wrong {
        Wrong here = t.wrong();
        if (t.next("not")) {
            if (deep == 6) {
                throw here;
            }
            return atom(t, deep + 1).negate();
        }
        if (t.next("(")) {
            if (deep == 6) {
                throw here;
            }
            Predicate<Facts> inner = any(t, deep + 1);
            t.want(")");
            return inner;
        }
        if (t.next("near")) {
            return Facts::near;
        }
        if (t.next("timed")) {
            return Facts::timed;
        }
        if (t.next("again")) {
            return Facts::again;
        }
        ToIntFunction<Facts> left = sum(t);
        boolean less = t.next("<");
        if (!less) {
            t.want(">");
        }
        ToIntFunction<Facts> right = sum(t);
        return less ? f -> left.applyAsInt(f) < right.applyAsInt(f) : f -> left.applyAsInt(f) > right.applyAsInt(f);
    }

    private ToIntFunction<Facts> sum(Things t) throws Wrong {
        List<ToIntFunction<Facts>> parts = new ArrayList<>();
        do {
            parts.add(part(t));
        } while (t.next("+"));
        return f -> parts.stream().mapToInt(p -> p.applyAsInt(f)).sum();
    }

    private ToIntFunction<Facts> part(Things t) throws Wrong {
        switch (t.look()) {
            case "worth": t.now++; return Facts::worth;
            case "amount": t.now++; return Facts::amount;
            case "hands": t.now++; return Facts::hands;
            case "left": t.now++; return Facts::left;
            case "owed": t.now++; return Facts::owed;
            case "debt": t.now++; return Facts::debt;
            default:
                int number = t.number(0, 999);
                return f -> number;
        }
    }

    int fault() {
        return fault;
    }

    private void person(int p) {
        if (p < 0 || p >= s.limits.size()) {
            throw new IndexOutOfBoundsException();
        }
    }

    private Favour favour(int f) {
        if (f < 0 || f >= s.favours.size()) {
            throw new IndexOutOfBoundsException();
        }
        return s.favours.get(f);
    }

    private static void allowed(boolean is) {
        if (!is) {
            throw new IllegalArgumentException();
        }
    }

    private void two(int a, int b) {
        person(a);
        person(b);
        allowed(a != b);
    }

    int has(int p, int temper) {
        person(p);
        if (temper < -1 || temper >= s.tempers.size()) {
            throw new IndexOutOfBoundsException();
        }
        return s.temperOf.set(p, temper);
    }

    int give(int from, int to, int amount, int days, boolean forced) {
        two(from, to);
        allowed(amount >= 1 && amount <= 99 && days >= 0 && days <= 99);
        return s.give(from, to, amount, days, forced);
    }

    int pass(int f, int to) {
        favour(f);
        person(to);
        allowed(favour(f).holder != to);
        return s.pass(favour(f), to);
    }

    int call(int f) {
        return s.call(favour(f));
    }

    int days(int n) {
        allowed(n >= 1 && n <= 99);
        return s.days(n);
    }

    int look(int f, int what) {
        Favour it = favour(f);
        switch (what) {
            case 0: return it.giver;
            case 1: return it.holder;
            case 2: return it.amount;
            case 3: return it.hands();
            case 4: return it.holder < 0 ? 0 : it.worth();
            case 5: return it.end;
            case 6: return it.forced ? 1 : 0;
            default: throw new NoSuchElementException();
        }
    }

    int hand(int f, int k) {
        List<Integer> row = favour(f).row;
        return k >= 0 && k < row.size() ? row.get(k) : -1;
    }

    boolean takes(int p, int f) {
        person(p);
        return s.takes(p, favour(f));
    }

    int rich(int p) {
        person(p);
        return s.rich(p);
    }

    int debt(int p) {
        person(p);
        return s.debt(p);
    }

    int owes(int a, int b) {
        person(a);
        person(b);
        return s.owes(a, b);
    }

    int pays(int a, int b, int n) {
        two(a, b);
        allowed(n >= 1 && n <= 99);
        return s.pays(a, b, n);
    }

    private Need need(int n) {
        if (n < 0 || n >= s.needs.size()) {
            throw new IndexOutOfBoundsException();
        }
        return s.needs.get(n);
    }

    boolean can(int n) {
        return s.can(need(n));
    }

    int meet(int n) {
        return s.meet(need(n));
    }

    boolean enough(int set) {
        return s.witness(set) < 0;
    }

    int witness(int set) {
        return s.witness(set);
    }

    int fewest() {
        int best = -1;
        for (int set = 0; set < 1 << s.limits.size(); set++) {
            if ((best < 0 || Integer.bitCount(set) < Integer.bitCount(best)) && enough(set)) {
                best = set;
            }
        }
        return best;
    }

    int forgive(int set) {
        return s.forgive(set);
    }

    int port(int a, int b) {
        two(a, b);
        return s.port(a, b);
    }

    private int[][] ports() {
        int n = s.limits.size();
        int[][] ports = new int[n][n];
        for (int a = 0; a < n; a++) {
            for (int b = 0; b < n; b++) {
                ports[a][b] = a == b ? 0 : s.port(a, b);
            }
        }
        return ports;
    }

    private static int across(int[][] ports, int set) {
        int sum = 0;
        for (int a = 0; a < ports.length; a++) {
            for (int b = 0; b < ports.length; b++) {
                sum += (set >> a & 1) == 1 && (set >> b & 1) == 0 ? ports[a][b] : 0;
            }
        }
        return sum;
    }

    /** The greatest flow is the least that goes out of a set; the people of all such sets are those of CUT. */
    int most(int a, int b) {
        two(a, b);
        int[][] ports = ports();
        int least = Integer.MAX_VALUE;
        for (int set = 0; set < 1 << ports.length; set++) {
            if ((set >> a & 1) == 1 && (set >> b & 1) == 0) {
                least = Math.min(least, across(ports, set));
            }
        }
        return least;
    }

    int cut(int a, int b) {
        int most = most(a, b);
        int[][] ports = ports();
        int common = -1;
        for (int set = 0; set < 1 << ports.length; set++) {
            if ((set >> a & 1) == 1 && (set >> b & 1) == 0 && across(ports, set) == most) {
                common &= set;
            }
        }
        return common;
    }

    int chain(int a, int b, int n, int k) {
        two(a, b);
        allowed(n >= 1 && n <= 99);
        allowed(k >= -1);
        int[][] ports = ports();
        List<List<Integer>> rows = new ArrayList<>();
        rows.add(new ArrayList<>(List.of(a)));
        boolean[] seen = new boolean[ports.length];
        seen[a] = true;
        for (int steps = 0; steps < ports.length; steps++) {
            // rows stand in order, so who is come to by several keeps the first of them
            List<List<Integer>> next = new ArrayList<>();
            for (List<Integer> row : rows) {
                if (row.get(row.size() - 1) == b) {
                    return k < 0 ? steps : k < row.size() ? row.get(k) : -1;
                }
                for (int p = 0; p < ports.length; p++) {
                    if (!seen[p] && ports[row.get(row.size() - 1)][p] >= n) {
                        seen[p] = true;
                        List<Integer> longer = new ArrayList<>(row);
                        longer.add(p);
                        next.add(longer);
                    }
                }
            }
            rows = next;
        }
        return -1;
    }

    int ring() {
        String row = use();
        List<Integer> ring = new ArrayList<>();
        for (char c : row.toCharArray()) {
            allowed(c - 97 >= 0 && c - 97 < s.limits.size() && !ring.contains(c - 97));
            ring.add(c - 97);
        }
        allowed(ring.size() >= 2 && ring.size() <= 6);
        if (s.rings.size() == 8) {
            throw new UnsupportedOperationException();
        }
        s.rings.add(ring);
        return s.rings.size() - 1;
    }

    int clear(int k) {
        allowed(k >= -1);
        int n = s.limits.size();
        int[][] owed = new int[n][n];
        for (int a = 0; a < n; a++) {
            for (int b = 0; b < n; b++) {
                owed[a][b] = s.owes(a, b);
            }
        }
        int[] order = new int[s.rings.size()];
        for (int r = 0; r < order.length; r++) {
            order[r] = r;
        }
        int most = -1;
        int[] best = order.clone();
        do {
            int sum = cleared(owed, order);
            if (sum > most) {
                most = sum;
                best = order.clone();
            }
        } while (nextOrder(order));
        return k < 0 ? most : k < best.length ? best[k] : -1;
    }

    private int cleared(int[][] owed, int[] order) {
        int[][] left = Arrays.stream(owed).map(int[]::clone).toArray(int[][]::new);
        int sum = 0;
        for (int r : order) {
            List<Integer> ring = s.rings.get(r);
            int least = Integer.MAX_VALUE;
            for (int k = 0; k < ring.size(); k++) {
                least = Math.min(least, left[ring.get(k)][ring.get((k + 1) % ring.size())]);
            }
            for (int k = 0; k < ring.size(); k++) {
                left[ring.get(k)][ring.get((k + 1) % ring.size())] -= least;
            }
            sum += least * ring.size();
        }
        return sum;
    }

    private static boolean nextOrder(int[] order) {
        int i = order.length - 2;
        while (i >= 0 && order[i] > order[i + 1]) {
            i--;
        }
        if (i < 0) {
            return false;
        }
        int j = order.length - 1;
        while (order[j] < order[i]) {
            j--;
        }
        int swap = order[i];
        order[i] = order[j];
        order[j] = swap;
        Arrays.sort(order, i + 1, order.length);
        return true;
    }

    int loss(int p, int by) {
        person(p);
        person(by);
        return s.loss(p, by);
    }

    int ruined(int p) {
        person(p);
        int worst = -1;
        for (int by = 0; by < s.limits.size(); by++) {
            if (s.loss(p, by) > (worst < 0 ? 0 : s.loss(p, worst))) {
                worst = by;
            }
        }
        return worst;
    }

    int fits(int f) {
        String row = use();
        StringBuilder right = new StringBuilder();
        for (int p : favour(f).row) {
            right.append((char) (97 + p));
        }
        if (right.toString().equals(row)) {
            return -1;
        }
        int k = 0;
        while (k < row.length() && k < right.length() && row.charAt(k) == right.charAt(k)) {
            k++;
        }
        return k;
    }

    private int seed;

    private int draw() {
        seed = (int) (1103515245L * seed + 12345L);
        return seed >>> 16 & 0x7fff;
    }

    int play(int firstSeed, int days, int what) {
        allowed(days >= 0 && days <= 60);
        if (what < 0 || what > 5) {
            throw new NoSuchElementException();
        }
        seed = firstSeed;
        State town = s.copy();
        int n = town.limits.size();
        int[] counts = new int[3];
        for (int d = 0; d < days; d++) {
            for (int p = 0; p < n; p++) {
                int of = draw() % n;
                if (of != p) {
                    Need need = new Need(p, of, draw() % 9 + 1);
                    boolean byPassing = town.pays(p, of, need.wholes) >= 0;
                    counts[town.meet(need) < 0 ? 2 : byPassing ? 0 : 1]++;
                }
            }
            town.days(1);
        }
        int best = -1;
        int all = 0;
        for (int p = 0; p < n; p++) {
            all += town.rich(p);
            best = best < 0 || town.rich(p) > town.rich(best) ? p : best;
        }
        return what < 3 ? counts[what] : what == 3 ? town.alive() : what == 4 ? all : best;
    }

    void image() {
        kept = s.copy();
    }

    boolean back() {
        if (kept != null) {
            s = kept.copy();
        }
        return kept != null;
    }

    int count(int what) {
        int pairs = 0;
        for (int a = 0; a < 12; a++) {
            for (int b = 0; b < a; b++) {
                pairs += s.near[a][b] ? 1 : 0;
            }
        }
        int[] counts = {s.limits.size(), s.texts, s.tempers.size(), s.favours.size(), s.alive(), s.needs.size(),
            s.rings.size(), s.day, s.law, pairs};
        return what >= 0 && what < counts.length ? counts[what] : -1;
    }
}
