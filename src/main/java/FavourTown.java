import java.util.Arrays;
import java.util.NoSuchElementException;

/** A town in which one pays by favours owed. What each call answers stands in ../shared/DOC.md. */
public final class FavourTown {
    public static final int NONE = -1;

    private static final int MOST_PEOPLE = 12;
    private static final int MOST_FAVOURS = 40;
    private static final int MOST_NEEDS = 12;
    private static final int MOST_RINGS = 8;
    private static final int LEAST_IN_RING = 2;
    private static final int MOST_IN_RING = 6;
    private static final int MOST_TEXTS = 10;
    private static final int MOST_TEMPERS = 6;
    private static final int MOST_LIMIT = 999;
    private static final int MOST_LAW = 10;
    private static final int MOST_WHOLES = 99;
    private static final int MOST_DAYS = 99;
    private static final int MOST_PLAYED_DAYS = 60;
    private static final int WHOLE = 1024;
    private static final int NO_END_LEFT = 999;
    private static final int FIRST_LETTER = 97;
    /** Above all that can be OWED or can flow. */
    private static final int MUCH = 1000000;
    /** The longest HANDS ROW: the GIVER, the first HOLDER, and one more for each of the HANDS. */
    private static final int ROW = MOST_LAW + 2;

    private final Tape tape;
    private final Town live;
    private final Town kept;
    private final Town spare;
    private final TownText townText;
    private final TemperText temperText;
    private final Ports ports;
    private final RingOrder order;
    private final Played played;
    private boolean imageKept;
    private int wrongByte;

    public FavourTown() {
        tape = new Tape();
        live = new Town();
        kept = new Town();
        spare = new Town();
        townText = new TownText(tape.bytes, live);
        temperText = new TemperText(tape.bytes);
        ports = new Ports();
        order = new RingOrder(live);
        played = new Played();
        imageKept = false;
        wrongByte = NONE;
    }

    public int feed(int a, int b, int c, int d, int e) {
        if (tape.size + Tape.FEED > Tape.MOST) {
            return NONE;
        }
        tape.add(a);
        tape.add(b);
        tape.add(c);
        tape.add(d);
        tape.add(e);
        return tape.size;
    }

    public boolean end(int n) {
        if (n < 0 || n > tape.size) {
            return false;
        }
        tape.size = n;
        return true;
    }

    public int town() throws IllegalArgumentException, UnsupportedOperationException {
        spare.become(live);
        boolean right = townText.read(tape.useUp());
        wrongByte = townText.fault;
        boolean full = live.texts >= MOST_TEXTS;
        if (!right || full) {
            live.become(spare);
        }
        if (!right) {
            throw new IllegalArgumentException("the text is wrong");
        }
        if (full) {
            throw new UnsupportedOperationException("there are 10 texts");
        }
        live.texts++;
        return live.texts;
    }

    public int temper() throws IllegalArgumentException, UnsupportedOperationException {
        temperText.forget();
        boolean right = temperText.read(tape.useUp());
        wrongByte = temperText.fault;
        if (!right) {
            throw new IllegalArgumentException("the text is wrong");
        }
        if (live.temperCount >= MOST_TEMPERS) {
            throw new UnsupportedOperationException("there are 6 tempers");
        }
        return live.addTemper(temperText.made());
    }

    public int fault() {
        return wrongByte;
    }

    public int has(int person, int temper) throws IndexOutOfBoundsException {
        needPerson(person);
        if (temper < NONE || temper >= live.temperCount) {
            throw new IndexOutOfBoundsException("no such temper");
        }
        int before = at(live.people.temper, person);
        put(live.people.temper, person, temper);
        return before;
    }

    public int give(int from, int to, int amount, int days, boolean forced)
            throws IndexOutOfBoundsException, IllegalArgumentException {
        needTwoPeople(from, to);
        needWholes(amount);
        if (days < 0 || days > MOST_DAYS) {
            throw new IllegalArgumentException("days are 0 to 99");
        }
        return live.giveFavour(from, to, amount, days, forced);
    }

    public int pass(int favour, int to) throws IndexOutOfBoundsException, IllegalArgumentException {
        needFavour(favour);
        needPerson(to);
        if (at(live.favours.holder, favour) == to) {
            throw new IllegalArgumentException("that person holds it already");
        }
        return live.passFavour(favour, to);
    }

    public int call(int favour) throws IndexOutOfBoundsException {
        needFavour(favour);
        return live.callIn(favour);
    }

    public int days(int n) throws IllegalArgumentException {
        if (n < 1 || n > MOST_DAYS) {
            throw new IllegalArgumentException("days are 1 to 99");
        }
        return live.letDaysPass(n);
    }

    public int look(int favour, int what) throws IndexOutOfBoundsException, NoSuchElementException {
        needFavour(favour);
        Favours favours = live.favours;
        switch (what) {
            case 0:
                return at(favours.giver, favour);
            case 1:
                return at(favours.holder, favour);
            case 2:
                return at(favours.amount, favour);
            case 3:
                return at(favours.hands, favour);
            case 4:
                return favours.isGone(favour) ? 0 : favours.worth(favour, 0);
            case 5:
                return at(favours.end, favour);
            case 6:
                return at(favours.forced, favour);
            default:
                throw new NoSuchElementException("what is 0 to 6");
        }
    }

    public int hand(int favour, int k) throws IndexOutOfBoundsException {
        needFavour(favour);
        return live.favours.inRow(favour, k);
    }

    public boolean takes(int person, int favour) throws IndexOutOfBoundsException {
        needPerson(person);
        needFavour(favour);
        return live.wouldTake(person, favour);
    }

    public int rich(int person) throws IndexOutOfBoundsException {
        needPerson(person);
        return at(live.people.rich, person);
    }

    public int debt(int person) throws IndexOutOfBoundsException {
        needPerson(person);
        return at(live.people.debt, person);
    }

    public int owes(int first, int second) throws IndexOutOfBoundsException {
        needPerson(first);
        needPerson(second);
        return live.favours.owedBetween(first, second);
    }

    public int pays(int first, int second, int n) throws IndexOutOfBoundsException, IllegalArgumentException {
        needTwoPeople(first, second);
        needWholes(n);
        return live.favourToPay(first, second, n);
    }

    public boolean can(int need) throws IndexOutOfBoundsException {
        needNeed(need);
        return live.couldMeet(need);
    }

    public int meet(int need) throws IndexOutOfBoundsException {
        needNeed(need);
        return live.settle(at(live.needBy, need), at(live.needOf, need), at(live.needWholes, need));
    }

    public boolean enough(int set) {
        spare.become(live);
        spare.letGo(set);
        return spare.firstUnmet() == NONE;
    }

    public int witness(int set) {
        spare.become(live);
        spare.letGo(set);
        return spare.firstUnmet();
    }

    public int fewest() {
        int sets = 1 << live.people.count;
        int holders = live.favours.holders();
        spare.become(live);
        for (int size = 0; size <= live.people.count; size++) {
            for (int set = 0; set < sets; set++) {
                // who holds nothing has nothing to forgive, so no least set has such a one
                if (Integer.bitCount(set) == size && (set & ~holders) == 0) {
                    spare.holdAs(live);
                    spare.letGo(set);
                    if (spare.firstUnmet() == NONE) {
                        return set;
                    }
                }
            }
        }
        return NONE;
    }

    public int forgive(int set) {
        return live.letGo(set);
    }

    public int port(int from, int to) throws IndexOutOfBoundsException, IllegalArgumentException {
        needTwoPeople(from, to);
        return live.portBetween(from, to);
    }

    public int most(int from, int to) throws IndexOutOfBoundsException, IllegalArgumentException {
        needTwoPeople(from, to);
        ports.open(live);
        return ports.greatestFlow(from, to);
    }

    public int cut(int from, int to) throws IndexOutOfBoundsException, IllegalArgumentException {
        needTwoPeople(from, to);
        ports.open(live);
        ports.greatestFlow(from, to);
        return ports.reached;
    }

    public int chain(int from, int to, int n, int k) throws IndexOutOfBoundsException, IllegalArgumentException {
        needTwoPeople(from, to);
        needWholes(n);
        needPlace(k);
        ports.open(live);
        ports.countSteps(to, n);
        return k == NONE ? ports.stepsFrom(from) : ports.onChain(from, n, k);
    }

    public int ring() throws IllegalArgumentException, UnsupportedOperationException {
        int size = tape.useUp();
        if (!isRing(size)) {
            throw new IllegalArgumentException("it is no ring");
        }
        if (live.rings >= MOST_RINGS) {
            throw new UnsupportedOperationException("there are 8 rings");
        }
        return live.addRing(tape.bytes, size);
    }

    public int clear(int k) throws IllegalArgumentException {
        needPlace(k);
        order.find();
        if (k == NONE) {
            return order.bestSum;
        }
        return k < live.rings ? at(order.best, k) : NONE;
    }

    public int loss(int person, int by) throws IndexOutOfBoundsException {
        needPerson(person);
        needPerson(by);
        return live.favours.lossOf(person, by);
    }

    public int ruined(int person) throws IndexOutOfBoundsException {
        needPerson(person);
        int worst = NONE;
        int greatest = 0;
        for (int by = 0; by < live.people.count; by++) {
            int lost = live.favours.lossOf(person, by);
            if (lost > greatest) {
                greatest = lost;
                worst = by;
            }
        }
        return worst;
    }

    public int fits(int favour) throws IndexOutOfBoundsException {
        int size = tape.useUp();
        needFavour(favour);
        int length = live.favours.rowLength(favour);
        int both = Math.min(size, length);
        for (int k = 0; k < both; k++) {
            if (at(tape.bytes, k) - FIRST_LETTER != live.favours.inRow(favour, k)) {
                return k;
            }
        }
        return size == length ? NONE : both;
    }

    public int play(int seed, int days, int what) throws IllegalArgumentException, NoSuchElementException {
        if (days < 0 || days > MOST_PLAYED_DAYS) {
            throw new IllegalArgumentException("days are 0 to 60");
        }
        if (what < 0 || what > 5) {
            throw new NoSuchElementException("what is 0 to 5");
        }
        spare.become(live);
        played.run(spare, seed, days);
        switch (what) {
            case 0:
                return played.passed;
            case 1:
                return played.given;
            case 2:
                return played.unmet;
            case 3:
                return spare.favours.countLeft();
            case 4:
                return spare.people.richTogether();
            default:
                return spare.people.richest();
        }
    }

    public void image() {
        kept.become(live);
        imageKept = true;
    }

    public boolean back() {
        if (!imageKept) {
            return false;
        }
        live.become(kept);
        return true;
    }

    public int count(int what) {
        switch (what) {
            case 0:
                return live.people.count;
            case 1:
                return live.texts;
            case 2:
                return live.temperCount;
            case 3:
                return live.favours.count;
            case 4:
                return live.favours.countLeft();
            case 5:
                return live.needs;
            case 6:
                return live.rings;
            case 7:
                return live.day;
            case 8:
                return live.law;
            case 9:
                return live.people.nearPairs();
            default:
                return NONE;
        }
    }

    private void needPerson(int person) {
        if (!live.people.isThere(person)) {
            throw new IndexOutOfBoundsException("no such person");
        }
    }

    private void needTwoPeople(int first, int second) {
        needPerson(first);
        needPerson(second);
        if (first == second) {
            throw new IllegalArgumentException("both are one");
        }
    }

    private void needFavour(int favour) {
        if (favour < 0 || favour >= live.favours.count) {
            throw new IndexOutOfBoundsException("no such favour");
        }
    }

    private void needNeed(int need) {
        if (need < 0 || need >= live.needs) {
            throw new IndexOutOfBoundsException("no such need");
        }
    }

    private static void needWholes(int n) {
        if (n < 1 || n > MOST_WHOLES) {
            throw new IllegalArgumentException("it is 1 to 99");
        }
    }

    private static void needPlace(int k) {
        if (k < NONE) {
            throw new IllegalArgumentException("k is below NONE");
        }
    }

    private boolean isRing(int size) {
        if (size < LEAST_IN_RING || size > MOST_IN_RING) {
            return false;
        }
        int seen = 0;
        for (int k = 0; k < size; k++) {
            int person = at(tape.bytes, k) - FIRST_LETTER;
            if (!live.people.isThere(person) || hasBit(seen, person)) {
                return false;
            }
            seen |= 1 << person;
        }
        return true;
    }

    private static int at(int[] row, int k) {
        return k >= 0 && k < row.length ? row[k] : NONE;
    }

    private static void put(int[] row, int k, int value) {
        if (k >= 0 && k < row.length) {
            row[k] = value;
        }
    }

    private static void addTo(int[] row, int k, int more) {
        if (k >= 0 && k < row.length) {
            row[k] += more;
        }
    }

    private static void copy(int[] from, int[] to) {
        System.arraycopy(from, 0, to, 0, Math.min(from.length, to.length));
    }

    private static boolean hasBit(int set, int k) {
        return (set >> k & 1) == 1;
    }

    private static int oneIf(boolean holds) {
        return holds ? 1 : 0;
    }

    private static final class Tape {
        private static final int MOST = 400;
        private static final int FEED = 20;

        private final int[] bytes = new int[MOST];
        private int size;

        void add(int number) {
            for (int shift = 24; shift >= 0; shift -= 8) {
                put(bytes, size, number >> shift & 255);
                size++;
            }
        }

        /** The bytes stand until the next feed, so who reads them needs no copy. */
        int useUp() {
            int used = size;
            size = 0;
            return used;
        }
    }

    /** Cuts a text into its things and goes through them LINE by LINE; fault is where it stopped. */
    private abstract static class Reader {
        /** A thing is one number: 0 to 999 itself, else a word by its place in words, else a sign by its byte. */
        static final int WORD = 1000;
        static final int SIGN = 2000;
        static final int ENDED = 3000;
        static final int UNKNOWN = 3001;
        static final int MOST_NUMBER = 999;
        private static final int MOST_DIGITS = 3;
        private static final int BLANK = 0;
        private static final int LETTER = 1;
        private static final int DIGIT = 2;
        private static final int OTHER = 3;

        private final int[] bytes;
        private final String words;
        private final int mostLines;
        private final int[] things = new int[Tape.MOST + 1];
        private final int[] begins = new int[Tape.MOST + 1];
        private int length;
        private int place;
        int thing;
        int got;
        int fault;

        Reader(int[] bytes, String words, int mostLines) {
            this.bytes = bytes;
            this.words = words;
            this.mostLines = mostLines;
            this.fault = NONE;
        }

        abstract boolean readLine();

        boolean read(int size) {
            length = Math.max(0, Math.min(size, Tape.MOST));
            fault = NONE;
            cutUp();
            if (thing == ENDED) {
                return true;
            }
            for (int line = 0; line < mostLines; line++) {
                if (!readLine()) {
                    return false;
                }
                if (thing == ENDED) {
                    return true;
                }
                if (!follows(SIGN + ';')) {
                    return false;
                }
            }
            return wrong();
        }

        private void cutUp() {
            int count = 0;
            int before = BLANK;
            for (int k = 0; k < length; k++) {
                int kind = kindOf(at(bytes, k));
                if (kind != BLANK && (kind == OTHER || kind != before)) {
                    put(things, count, thingAt(k, kind));
                    put(begins, count, k);
                    count++;
                }
                before = kind;
            }
            put(things, count, ENDED);
            put(begins, count, length);
            place = 0;
            thing = at(things, 0);
        }

        private static int kindOf(int sign) {
            if (sign >= 'a' && sign <= 'z') {
                return LETTER;
            }
            if (sign >= '0' && sign <= '9') {
                return DIGIT;
            }
            return sign == ' ' ? BLANK : OTHER;
        }

        private int thingAt(int begin, int kind) {
            if (kind == OTHER) {
                return SIGN + at(bytes, begin);
            }
            int end = begin;
            for (int k = begin; k < length && kindOf(at(bytes, k)) == kind; k++) {
                end = k + 1;
            }
            return kind == LETTER ? wordIn(begin, end - begin) : numberIn(begin, end - begin);
        }

        private int numberIn(int begin, int digits) {
            if (digits > MOST_DIGITS) {
                return UNKNOWN;
            }
            int number = 0;
            for (int k = 0; k < digits; k++) {
                number = number * 10 + at(bytes, begin + k) - '0';
            }
            return number;
        }

        private int wordIn(int begin, int letters) {
            int word = WORD;
            int alike = 0;
            for (int k = 0; k <= words.length(); k++) {
                char sign = k < words.length() ? words.charAt(k) : ' ';
                if (sign == ' ') {
                    if (alike == letters) {
                        return word;
                    }
                    word++;
                    alike = 0;
                } else {
                    boolean same = alike >= 0 && alike < letters && at(bytes, begin + alike) == sign;
                    alike = same ? alike + 1 : NONE;
                }
            }
            return UNKNOWN;
        }

        void step() {
            place++;
            thing = place >= 0 && place < things.length ? things[place] : ENDED;
        }

        boolean follows(int what) {
            if (thing != what) {
                return wrong();
            }
            step();
            return true;
        }

        boolean number(int least, int most) {
            if (thing < least || thing > most) {
                return wrong();
            }
            got = thing;
            step();
            return true;
        }

        boolean wrong() {
            fault = place >= 0 && place < begins.length ? begins[place] : NONE;
            return false;
        }
    }

    /** Carries out each LINE as it is read, for the next ones ask who and what is there by then. */
    private static final class TownText extends Reader {
        private static final int MOST_LINES = 14;
        private static final String WORDS = "person near law give pass call days need to of for forced";
        private static final int PERSON = WORD;
        private static final int NEAR = WORD + 1;
        private static final int LAW = WORD + 2;
        private static final int GIVE = WORD + 3;
        private static final int PASS = WORD + 4;
        private static final int CALL = WORD + 5;
        private static final int DAYS = WORD + 6;
        private static final int NEED = WORD + 7;
        private static final int TO = WORD + 8;
        private static final int OF = WORD + 9;
        private static final int FOR = WORD + 10;
        private static final int FORCED = WORD + 11;

        private final Town town;
        private int verb;
        private int favour;
        private int first;
        private int second;
        private int amount;
        private int daysLeft;
        private boolean forced;

        TownText(int[] bytes, Town town) {
            super(bytes, WORDS, MOST_LINES);
            this.town = town;
        }

        boolean readLine() {
            if (!readVerb() || !readParts()) {
                return false;
            }
            switch (verb) {
                case PERSON:
                    town.people.add(amount);
                    break;
                case NEAR:
                    town.people.makeNear(first, second);
                    break;
                case LAW:
                    town.law = amount;
                    break;
                case GIVE:
                    town.giveFavour(first, second, amount, daysLeft, forced);
                    break;
                case PASS:
                    town.passFavour(favour, first);
                    break;
                case CALL:
                    town.callIn(favour);
                    break;
                case DAYS:
                    town.letDaysPass(amount);
                    break;
                default:
                    town.addNeed(first, second, amount);
                    break;
            }
            return true;
        }

        private boolean readVerb() {
            boolean tooMany = thing == PERSON && town.people.count >= MOST_PEOPLE
                || thing == NEED && town.needs >= MOST_NEEDS;
            if (tooMany || thing < PERSON || thing > NEED) {
                return wrong();
            }
            verb = thing;
            step();
            return true;
        }

        private boolean readParts() {
            switch (verb) {
                case PERSON:
                    return readAmount(0, MOST_LIMIT);
                case NEAR:
                    return readFirst() && readSecond();
                case LAW:
                    return readAmount(0, MOST_LAW);
                case GIVE:
                    return readGift();
                case PASS:
                    return readFavour() && follows(TO) && readFirst();
                case CALL:
                    return readFavour();
                case DAYS:
                    return readAmount(1, MOST_DAYS);
                default:
                    return readFirst() && follows(OF) && readSecond() && readAmount(1, MOST_WHOLES);
            }
        }

        private boolean readGift() {
            if (!readFirst() || !follows(TO) || !readSecond() || !readAmount(1, MOST_WHOLES)) {
                return false;
            }
            daysLeft = 0;
            if (thing == FOR) {
                step();
                if (!number(1, MOST_DAYS)) {
                    return false;
                }
                daysLeft = got;
            }
            forced = thing == FORCED;
            if (forced) {
                step();
            }
            return true;
        }

        private boolean readAmount(int least, int most) {
            boolean right = number(least, most);
            amount = got;
            return right;
        }

        private boolean readFavour() {
            boolean right = number(0, town.favours.count - 1);
            favour = got;
            return right;
        }

        private boolean readFirst() {
            boolean right = number(0, town.people.count - 1);
            first = got;
            return right;
        }

        private boolean readSecond() {
            if (thing == first) {
                return wrong();
            }
            boolean right = number(0, town.people.count - 1);
            second = got;
            return right;
        }
    }

    /** Turns a TEMPER's text into code for Temper, each part ahead of what joins it. */
    private static final class TemperText extends Reader {
        private static final int MOST_LINES = 12;
        private static final int DEEPEST = 6;

        private final int[] code = new int[Tape.MOST];
        private int size;

        TemperText(int[] bytes) {
            super(bytes, Temper.WORDS, MOST_LINES);
        }

        void forget() {
            size = 0;
        }

        Temper made() {
            return new Temper(code, size);
        }

        boolean readLine() {
            int verdict = thing;
            if (verdict != Temper.TAKE && verdict != Temper.REFUSE) {
                return wrong();
            }
            step();
            if (thing == Temper.IF) {
                step();
                if (!condition(0)) {
                    return false;
                }
            } else {
                emit(1);
            }
            emit(verdict);
            return true;
        }

        private boolean condition(int deep) {
            boolean and = false;
            boolean or = false;
            for (int k = 0; k < Tape.MOST; k++) {
                if (!atom(deep)) {
                    return false;
                }
                if (and) {
                    emit(Temper.AND);
                }
                and = thing == Temper.AND;
                if (!and) {
                    if (or) {
                        emit(Temper.OR);
                    }
                    or = thing == Temper.OR;
                }
                if (!and && !or) {
                    return true;
                }
                step();
            }
            return wrong();
        }

        private boolean atom(int deep) {
            boolean not = thing == Temper.NOT;
            if (not || thing == SIGN + '(') {
                if (deep >= DEEPEST) {
                    return wrong();
                }
                step();
                return not ? opposite(deep + 1) : condition(deep + 1) && follows(SIGN + ')');
            }
            if (thing < Temper.NEAR || thing > Temper.AGAIN) {
                return comparison();
            }
            emit(thing);
            step();
            return true;
        }

        private boolean opposite(int deep) {
            boolean right = atom(deep);
            emit(Temper.NOT);
            return right;
        }

        private boolean comparison() {
            if (!sum()) {
                return false;
            }
            int sign = thing;
            if (sign != Temper.LESS && sign != Temper.MORE) {
                return wrong();
            }
            step();
            boolean right = sum();
            emit(sign);
            return right;
        }

        private boolean sum() {
            for (int k = 0; k < Tape.MOST; k++) {
                boolean number = thing <= MOST_NUMBER;
                if (!number && (thing < Temper.WORTH || thing > Temper.DEBT)) {
                    return wrong();
                }
                emit(thing);
                step();
                if (k > 0) {
                    emit(Temper.PLUS);
                }
                if (thing != Temper.PLUS) {
                    return true;
                }
                step();
            }
            return wrong();
        }

        private void emit(int what) {
            if (size >= 0 && size < code.length) {
                code[size] = what;
                size++;
            }
        }
    }

    /** A TEMPER as code for a small stack: the things of its text, what joins others standing behind them. */
    private static final class Temper {
        private static final String WORDS =
            "worth amount hands left owed debt near timed again take refuse if not and or";
        private static final int FIRST_FACT = Reader.WORD;
        private static final int FACTS = 9;
        private static final int WORTH = FIRST_FACT;
        private static final int AMOUNT = FIRST_FACT + 1;
        private static final int HANDS = FIRST_FACT + 2;
        private static final int LEFT = FIRST_FACT + 3;
        private static final int OWED = FIRST_FACT + 4;
        private static final int DEBT = FIRST_FACT + 5;
        private static final int NEAR = FIRST_FACT + 6;
        private static final int TIMED = FIRST_FACT + 7;
        private static final int AGAIN = FIRST_FACT + 8;
        private static final int TAKE = FIRST_FACT + 9;
        private static final int REFUSE = FIRST_FACT + 10;
        private static final int IF = FIRST_FACT + 11;
        private static final int NOT = FIRST_FACT + 12;
        private static final int AND = FIRST_FACT + 13;
        private static final int OR = FIRST_FACT + 14;
        private static final int LESS = Reader.SIGN + '<';
        private static final int MORE = Reader.SIGN + '>';
        private static final int PLUS = Reader.SIGN + '+';
        /** Two for each of the 7 conditions within one another, and three for a comparison, is 17. */
        private static final int HIGHEST = 20;

        private final int[] code;
        private final int[] stack = new int[HIGHEST];
        private int height;

        Temper(int[] code, int size) {
            this.code = Arrays.copyOf(code, Math.max(0, Math.min(size, code.length)));
        }

        boolean says(int[] facts) {
            height = 0;
            for (int what : code) {
                if (what < FIRST_FACT) {
                    push(what);
                } else if (what < FIRST_FACT + FACTS) {
                    push(at(facts, what - FIRST_FACT));
                } else if (what == NOT) {
                    push(1 - pop());
                } else if (what != TAKE && what != REFUSE) {
                    int right = pop();
                    push(joined(what, pop(), right));
                } else if (pop() == 1) {
                    return what == TAKE;
                }
            }
            return false;
        }

        private static int joined(int what, int left, int right) {
            switch (what) {
                case PLUS:
                    return left + right;
                case LESS:
                    return left < right ? 1 : 0;
                case MORE:
                    return left > right ? 1 : 0;
                case AND:
                    return left & right;
                default:
                    return left | right;
            }
        }

        private void push(int number) {
            if (height >= 0 && height < stack.length) {
                stack[height] = number;
                height++;
            }
        }

        private int pop() {
            if (height <= 0 || height > stack.length) {
                return 0;
            }
            height--;
            return stack[height];
        }
    }

    /** RICH and DEBT are kept as they change, for they are asked by every TEMPER. */
    private static final class People {
        private final int[] limit = new int[MOST_PEOPLE];
        private final int[] temper = new int[MOST_PEOPLE];
        private final int[] near = new int[MOST_PEOPLE];
        private final int[] rich = new int[MOST_PEOPLE];
        private final int[] debt = new int[MOST_PEOPLE];
        private int count;

        void become(People other) {
            count = other.count;
            copy(other.limit, limit);
            copy(other.temper, temper);
            copy(other.near, near);
            holdAs(other);
        }

        void holdAs(People other) {
            copy(other.rich, rich);
            copy(other.debt, debt);
        }

        boolean isThere(int person) {
            return person >= 0 && person < count;
        }

        void add(int limitOfIt) {
            put(limit, count, limitOfIt);
            put(temper, count, NONE);
            put(near, count, 0);
            put(rich, count, 0);
            put(debt, count, 0);
            count++;
        }

        void makeNear(int one, int other) {
            put(near, one, at(near, one) | 1 << other);
            put(near, other, at(near, other) | 1 << one);
        }

        int nearPairs() {
            int ends = 0;
            for (int person = 0; person < count; person++) {
                ends += Integer.bitCount(at(near, person));
            }
            return ends / 2;
        }

        int richTogether() {
            int sum = 0;
            for (int person = 0; person < count; person++) {
                sum += at(rich, person);
            }
            return sum;
        }

        int richest() {
            int best = NONE;
            for (int person = 0; person < count; person++) {
                if (best == NONE || at(rich, person) > at(rich, best)) {
                    best = person;
                }
            }
            return best;
        }
    }

    private static final class Favours {
        private final int[] giver = new int[MOST_FAVOURS];
        private final int[] holder = new int[MOST_FAVOURS];
        private final int[] amount = new int[MOST_FAVOURS];
        private final int[] hands = new int[MOST_FAVOURS];
        private final int[] end = new int[MOST_FAVOURS];
        private final int[] forced = new int[MOST_FAVOURS];
        private final int[] rows = new int[MOST_FAVOURS * ROW];
        private int count;

        void become(Favours other) {
            count = other.count;
            copy(other.giver, giver);
            copy(other.amount, amount);
            copy(other.hands, hands);
            copy(other.end, end);
            copy(other.forced, forced);
            copy(other.rows, rows);
            holdAs(other);
        }

        void holdAs(Favours other) {
            copy(other.holder, holder);
        }

        int add(int from, int to, int amountOfIt, int endOfIt, boolean isForced) {
            int favour = count;
            put(giver, favour, from);
            put(holder, favour, to);
            put(amount, favour, amountOfIt);
            put(hands, favour, 0);
            put(end, favour, endOfIt);
            put(forced, favour, oneIf(isForced));
            put(rows, favour * ROW, from);
            put(rows, favour * ROW + 1, to);
            count++;
            return favour;
        }

        void comeInto(int favour, int person) {
            int length = rowLength(favour);
            if (length < ROW) {
                put(rows, favour * ROW + length, person);
                addTo(hands, favour, 1);
                put(holder, favour, person);
            }
        }

        boolean isGone(int favour) {
            return at(holder, favour) == NONE;
        }

        int worth(int favour, int moreHands) {
            return at(amount, favour) * WHOLE >> at(hands, favour) + moreHands;
        }

        int rowLength(int favour) {
            return at(hands, favour) + 2;
        }

        int inRow(int favour, int k) {
            return k >= 0 && k < rowLength(favour) ? at(rows, favour * ROW + k) : NONE;
        }

        boolean wasHeldBy(int favour, int person) {
            for (int k = 1; k < at(hands, favour) + 2; k++) {
                if (at(rows, favour * ROW + k) == person) {
                    return true;
                }
            }
            return false;
        }

        int countLeft() {
            int left = 0;
            for (int favour = 0; favour < count; favour++) {
                left += oneIf(!isGone(favour));
            }
            return left;
        }

        int holders() {
            int set = 0;
            for (int favour = 0; favour < count; favour++) {
                if (!isGone(favour)) {
                    set |= 1 << at(holder, favour);
                }
            }
            return set;
        }

        int owedBetween(int first, int second) {
            int sum = 0;
            for (int favour = 0; favour < count; favour++) {
                if (at(giver, favour) == first && at(holder, favour) == second) {
                    sum += at(amount, favour);
                }
            }
            return sum;
        }

        int lossOf(int person, int by) {
            int sum = 0;
            for (int favour = 0; favour < count; favour++) {
                if (at(giver, favour) != person) {
                    sum += lossOn(favour, person, by);
                }
            }
            return sum;
        }

        private int lossOn(int favour, int person, int by) {
            int sum = 0;
            int whole = at(amount, favour) * WHOLE;
            for (int k = 2; k < rowLength(favour); k++) {
                if (inRow(favour, k - 1) == by && inRow(favour, k) == person) {
                    sum += (whole >> k - 2) - (whole >> k - 1);
                }
            }
            return sum;
        }
    }

    /** All that THE IMAGE keeps. */
    private static final class Town {
        private final People people = new People();
        private final Favours favours = new Favours();
        private final Temper[] tempers = new Temper[MOST_TEMPERS];
        private final int[] facts = new int[Temper.FACTS];
        private final int[] needBy = new int[MOST_NEEDS];
        private final int[] needOf = new int[MOST_NEEDS];
        private final int[] needWholes = new int[MOST_NEEDS];
        private final int[] ringSizes = new int[MOST_RINGS];
        private final int[] ringRows = new int[MOST_RINGS * MOST_IN_RING];
        private int temperCount;
        private int needs;
        private int rings;
        private int texts;
        private int day;
        private int law = MOST_LAW;

        void become(Town other) {
            people.become(other.people);
            favours.become(other.favours);
            for (int k = 0; k < tempers.length && k < other.tempers.length; k++) {
                tempers[k] = other.tempers[k];
            }
            copy(other.needBy, needBy);
            copy(other.needOf, needOf);
            copy(other.needWholes, needWholes);
            copy(other.ringSizes, ringSizes);
            copy(other.ringRows, ringRows);
            temperCount = other.temperCount;
            needs = other.needs;
            rings = other.rings;
            texts = other.texts;
            day = other.day;
            law = other.law;
        }

        /** Enough to undo letGo, where nothing else differs. */
        void holdAs(Town other) {
            people.holdAs(other.people);
            favours.holdAs(other.favours);
        }

        int addTemper(Temper temper) {
            int number = temperCount;
            if (number >= 0 && number < tempers.length) {
                tempers[number] = temper;
            }
            temperCount++;
            return number;
        }

        void addNeed(int by, int of, int wholes) {
            put(needBy, needs, by);
            put(needOf, needs, of);
            put(needWholes, needs, wholes);
            needs++;
        }

        int addRing(int[] letters, int size) {
            int number = rings;
            put(ringSizes, number, size);
            for (int k = 0; k < size; k++) {
                put(ringRows, number * MOST_IN_RING + k, at(letters, k) - FIRST_LETTER);
            }
            rings++;
            return number;
        }

        /** The k-th PERSON of a RING; behind the last one comes the first again. */
        int inRing(int ring, int k) {
            int place = k < at(ringSizes, ring) ? k : 0;
            return at(ringRows, ring * MOST_IN_RING + place);
        }

        private Temper temperOf(int person) {
            int number = at(people.temper, person);
            return number >= 0 && number < tempers.length ? tempers[number] : null;
        }

        boolean wouldTake(int person, int favour) {
            Temper temper = temperOf(person);
            if (temper == null || at(favours.forced, favour) == 1) {
                return true;
            }
            int end = at(favours.end, favour);
            tell(Temper.AMOUNT, at(favours.amount, favour));
            tell(Temper.WORTH, favours.worth(favour, 1) / WHOLE);
            tell(Temper.HANDS, at(favours.hands, favour) + 1);
            tell(Temper.LEFT, end == NONE ? NO_END_LEFT : end - day);
            tell(Temper.TIMED, oneIf(end != NONE));
            tell(Temper.AGAIN, oneIf(favours.wasHeldBy(favour, person)));
            tellOfPeople(person, at(favours.giver, favour));
            return temper.says(facts);
        }

        private boolean wouldTakeNew(int person, int giver, int amount, int days) {
            Temper temper = temperOf(person);
            if (temper == null) {
                return true;
            }
            tell(Temper.AMOUNT, amount);
            tell(Temper.WORTH, amount);
            tell(Temper.HANDS, 0);
            tell(Temper.LEFT, days == 0 ? NO_END_LEFT : days);
            tell(Temper.TIMED, oneIf(days != 0));
            tell(Temper.AGAIN, 0);
            tellOfPeople(person, giver);
            return temper.says(facts);
        }

        private void tellOfPeople(int person, int giver) {
            tell(Temper.OWED, at(people.rich, person) / WHOLE);
            tell(Temper.DEBT, at(people.debt, giver));
            tell(Temper.NEAR, hasBit(at(people.near, person), giver) ? 1 : 0);
        }

        private void tell(int fact, int value) {
            int place = fact - Temper.FIRST_FACT;
            if (place >= 0 && place < facts.length) {
                facts[place] = value;
            }
        }

        private boolean couldGive(int from, int to, int amount, int days, boolean forced) {
            return at(people.debt, from) + amount <= at(people.limit, from)
                && favours.count < MOST_FAVOURS
                && (forced || wouldTakeNew(to, from, amount, days));
        }

        int giveFavour(int from, int to, int amount, int days, boolean forced) {
            if (!couldGive(from, to, amount, days, forced)) {
                return NONE;
            }
            addTo(people.debt, from, amount);
            addTo(people.rich, to, amount * WHOLE);
            return favours.add(from, to, amount, days == 0 ? NONE : day + days, forced);
        }

        private boolean mayMove(int favour) {
            return !favours.isGone(favour) && at(favours.hands, favour) < law;
        }

        private boolean couldGoTo(int favour, int to) {
            return mayMove(favour) && at(favours.giver, favour) != to && wouldTake(to, favour);
        }

        int passFavour(int favour, int to) {
            int from = at(favours.holder, favour);
            boolean home = at(favours.giver, favour) == to;
            if (from == to || !(home ? mayMove(favour) : couldGoTo(favour, to))) {
                return NONE;
            }
            addTo(people.rich, from, -favours.worth(favour, 0));
            favours.comeInto(favour, to);
            addTo(people.rich, to, favours.worth(favour, 0));
            if (home) {
                vanish(favour);
                return 0;
            }
            return favours.worth(favour, 0);
        }

        int callIn(int favour) {
            if (favours.isGone(favour)) {
                return NONE;
            }
            vanish(favour);
            return favours.worth(favour, 0);
        }

        private void vanish(int favour) {
            addTo(people.rich, at(favours.holder, favour), -favours.worth(favour, 0));
            addTo(people.debt, at(favours.giver, favour), -at(favours.amount, favour));
            put(favours.holder, favour, NONE);
        }

        int letDaysPass(int n) {
            day += n;
            int gone = 0;
            for (int favour = 0; favour < favours.count; favour++) {
                int end = at(favours.end, favour);
                if (!favours.isGone(favour) && end != NONE && end <= day) {
                    vanish(favour);
                    gone++;
                }
            }
            return gone;
        }

        int letGo(int set) {
            int gone = 0;
            for (int favour = 0; favour < favours.count; favour++) {
                if (!favours.isGone(favour) && hasBit(set, at(favours.holder, favour))) {
                    vanish(favour);
                    gone++;
                }
            }
            return gone;
        }

        int favourToPay(int from, int to, int wholes) {
            int best = NONE;
            for (int favour = 0; favour < favours.count; favour++) {
                int worth = favours.worth(favour, 1);
                boolean better = worth >= wholes * WHOLE && (best == NONE || worth < favours.worth(best, 1));
                if (better && at(favours.holder, favour) == from && couldGoTo(favour, to)) {
                    best = favour;
                }
            }
            return best;
        }

        boolean couldMeet(int need) {
            int by = at(needBy, need);
            int of = at(needOf, need);
            int wholes = at(needWholes, need);
            return favourToPay(by, of, wholes) != NONE || couldGive(by, of, wholes, 0, false);
        }

        int settle(int by, int of, int wholes) {
            int favour = favourToPay(by, of, wholes);
            if (favour == NONE) {
                return giveFavour(by, of, wholes, 0, false);
            }
            passFavour(favour, of);
            return favour;
        }

        int firstUnmet() {
            for (int need = 0; need < needs; need++) {
                if (!couldMeet(need)) {
                    return need;
                }
            }
            return NONE;
        }

        int portBetween(int from, int to) {
            int sum = 0;
            for (int favour = 0; favour < favours.count; favour++) {
                if (at(favours.holder, favour) == from && couldGoTo(favour, to)) {
                    sum += favours.worth(favour, 1) / WHOLE;
                }
            }
            return sum;
        }
    }

    private static final class Ports {
        /** Far above any flow: 40 FAVOURS carry at most 49 WHOLES each, and each round carries one at least. */
        private static final int MOST_ROUNDS = 100000;

        private final int[] left = new int[MOST_PEOPLE * MOST_PEOPLE];
        private final int[] queue = new int[MOST_PEOPLE];
        private final int[] cameFrom = new int[MOST_PEOPLE];
        private final int[] steps = new int[MOST_PEOPLE];
        private int count;
        private int reached;

        void open(Town town) {
            count = Math.min(town.people.count, MOST_PEOPLE);
            for (int from = 0; from < count; from++) {
                for (int to = 0; to < count; to++) {
                    put(left, place(from, to), from == to ? 0 : town.portBetween(from, to));
                }
            }
        }

        private static int place(int from, int to) {
            return from * MOST_PEOPLE + to;
        }

        /** Leaves in reached whom more could still come to. */
        int greatestFlow(int from, int to) {
            int flow = 0;
            for (int round = 0; round < MOST_ROUNDS && findWay(from, to); round++) {
                flow += carry(from, to);
            }
            return flow;
        }

        private boolean findWay(int from, int to) {
            reached = 1 << from;
            put(queue, 0, from);
            int waiting = 1;
            for (int k = 0; k < waiting && k < count; k++) {
                int person = at(queue, k);
                for (int other = 0; other < count; other++) {
                    if (!hasBit(reached, other) && at(left, place(person, other)) > 0) {
                        reached |= 1 << other;
                        put(cameFrom, other, person);
                        put(queue, waiting, other);
                        waiting++;
                    }
                }
            }
            return hasBit(reached, to);
        }

        private int carry(int from, int to) {
            int least = MUCH;
            int person = to;
            for (int k = 0; k < count && person != from; k++) {
                least = Math.min(least, at(left, place(at(cameFrom, person), person)));
                person = at(cameFrom, person);
            }
            person = to;
            for (int k = 0; k < count && person != from; k++) {
                int before = at(cameFrom, person);
                addTo(left, place(before, person), -least);
                addTo(left, place(person, before), least);
                person = before;
            }
            return least;
        }

        /** Counted from the end, so that a chain can be walked from its begin without a wrong turn. */
        void countSteps(int to, int n) {
            Arrays.fill(steps, NONE);
            put(steps, to, 0);
            put(queue, 0, to);
            int waiting = 1;
            for (int k = 0; k < waiting && k < count; k++) {
                int person = at(queue, k);
                for (int other = 0; other < count; other++) {
                    if (at(steps, other) == NONE && at(left, place(other, person)) >= n) {
                        put(steps, other, at(steps, person) + 1);
                        put(queue, waiting, other);
                        waiting++;
                    }
                }
            }
        }

        int stepsFrom(int person) {
            return at(steps, person);
        }

        int onChain(int from, int n, int k) {
            if (k > stepsFrom(from)) {
                return NONE;
            }
            int person = from;
            for (int step = 0; step < k && step < count; step++) {
                person = nextOnChain(person, n);
            }
            return person;
        }

        private int nextOnChain(int person, int n) {
            for (int other = 0; other < count; other++) {
                boolean nearer = at(steps, other) != NONE && at(steps, other) == at(steps, person) - 1;
                if (nearer && at(left, place(person, other)) >= n) {
                    return other;
                }
            }
            return NONE;
        }
    }

    private static final class RingOrder {
        private final int[] owed = new int[MOST_PEOPLE * MOST_PEOPLE];
        private final int[] tried = new int[MOST_RINGS];
        private final int[] best = new int[MOST_RINGS];
        private final Town town;
        private int bestSum;

        RingOrder(Town town) {
            this.town = town;
        }

        void find() {
            bestSum = NONE;
            for (int first = 0; first < town.people.count; first++) {
                for (int second = 0; second < town.people.count; second++) {
                    put(owed, first * MOST_PEOPLE + second, town.favours.owedBetween(first, second));
                }
            }
            tryRings(0, 0, 0);
        }

        /** Goes through the orders from the first to the last, so that of several best the first stays. */
        private void tryRings(int done, int used, int sum) {
            if (done >= town.rings || done >= MOST_RINGS) {
                if (sum > bestSum) {
                    bestSum = sum;
                    copy(tried, best);
                }
                return;
            }
            if (sum + mostToCome(used) <= bestSum) {
                return;
            }
            for (int ring = 0; ring < town.rings; ring++) {
                if (!hasBit(used, ring)) {
                    int least = leastOwed(ring);
                    put(tried, done, ring);
                    takeFrom(ring, least);
                    tryRings(done + 1, used | 1 << ring, sum + least * at(town.ringSizes, ring));
                    takeFrom(ring, -least);
                }
            }
        }

        /** What is owed only falls, so no RING can bring more later than it would now. */
        private int mostToCome(int used) {
            int sum = 0;
            for (int ring = 0; ring < town.rings; ring++) {
                if (!hasBit(used, ring)) {
                    sum += leastOwed(ring) * at(town.ringSizes, ring);
                }
            }
            return sum;
        }

        private int debtPlace(int ring, int k) {
            return town.inRing(ring, k) * MOST_PEOPLE + town.inRing(ring, k + 1);
        }

        private int leastOwed(int ring) {
            int least = MUCH;
            for (int k = 0; k < at(town.ringSizes, ring); k++) {
                least = Math.min(least, at(owed, debtPlace(ring, k)));
            }
            return least;
        }

        private void takeFrom(int ring, int amount) {
            for (int k = 0; k < at(town.ringSizes, ring); k++) {
                addTo(owed, debtPlace(ring, k), -amount);
            }
        }
    }

    private static final class Played {
        private static final int FACTOR = 1103515245;
        private static final int PLUS = 12345;
        private static final int MOST_DRAWN = 9;

        private int seed;
        private int passed;
        private int given;
        private int unmet;

        void run(Town town, int firstSeed, int days) {
            seed = firstSeed;
            passed = 0;
            given = 0;
            unmet = 0;
            for (int day = 0; day < days; day++) {
                for (int person = 0; person < town.people.count; person++) {
                    int of = drawn() % Math.max(1, town.people.count);
                    if (of != person) {
                        int before = town.favours.count;
                        int met = town.settle(person, of, drawn() % MOST_DRAWN + 1);
                        tally(met, town.favours.count > before);
                    }
                }
                town.letDaysPass(1);
            }
        }

        private void tally(int met, boolean byGiving) {
            if (met == NONE) {
                unmet++;
            } else if (byGiving) {
                given++;
            } else {
                passed++;
            }
        }

        private int drawn() {
            seed = FACTOR * seed + PLUS;
            return seed >> 16 & 32767;
        }
    }
}
