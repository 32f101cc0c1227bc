/** The document's terms: the texts of THE TOWN and of TEMPERS. */
final class TextEdges extends Edges {
    private static final String THREE = "person 99;person 99;person 99";

    /** Wrong texts for a town of three, one favour and no more than one text, each with its first wrong byte. */
    private void wrongTowns(Object... textsAndFaults) {
        FavourTown x = Check.told(THREE + ";give 0 to 1 8");
        for (int k = 0; k < textsAndFaults.length; k += 2) {
            check.wrongTown(x, (String) textsAndFaults[k], (Integer) textsAndFaults[k + 1]);
        }
        due("texts", x.count(1), 1);
    }

    /** Each on a new town of three with one favour. */
    private void rightTowns(String... texts) {
        for (String text : texts) {
            check.rightTown(Check.told(THREE + ";give 0 to 1 8"), text);
        }
    }

    private void wrongTempers(Object... textsAndFaults) {
        for (int k = 0; k < textsAndFaults.length; k += 2) {
            check.wrongTemper((String) textsAndFaults[k], (Integer) textsAndFaults[k + 1]);
        }
    }

    private void rightTempers(String... texts) {
        for (String text : texts) {
            check.rightTemper(text);
        }
    }

    @Sentence("THE TOWN is told in texts (at most 10, one behind another)")
    void atMost10Texts() {
        FavourTown x = new FavourTown();
        for (int k = 1; k <= 10; k++) {
            due("text " + k, Check.town(x, k == 5 ? "" : "person 9"), k);
        }
        due("each behind the others", x.count(0), 9);
        fails("an 11th", FULL, () -> Check.town(x, "person 9"));
        fails("an 11th that is empty", FULL, () -> Check.town(x, ""));
        due("people", x.count(0), 9);
        due("texts", x.count(1), 10);
    }

    @Sentence("LINE { ; LINE }, at most 14: person")
    void atMost14LinesOfATown() {
        FavourTown x = new FavourTown();
        check.rightTown(x, times(14, "days 1"));
        due("14 lines", x.count(7), 14);
        check.wrongTown(x, times(15, "days 1"), 98);
        check.wrongTown(x, times(14, "days 1") + ";", 98);
        check.wrongTown(x, times(14, "days 1") + " ;  ", 101);
        check.wrongTown(x, times(14, "days 1") + "; days 1;days 0", 99);
        check.wrongTown(x, times(13, "days 1") + ";days 0;days 1", 96);
        wrongTowns(";", 0, "days 1;", 7, "days 1;;days 1", 7, ";days 1", 0, "days 1 days 1", 7, "days 1,days 1", 6);
    }

    @Sentence("person LIMIT |")
    void personLine() {
        rightTowns("person 0", "person 999", "person 007", "person5");
        wrongTowns("person", 6, "person ", 7, "person x", 7, "person person 5", 7, "person 5 5", 9, "person ;", 7,
            "person 1000", 7, "person -5", 7, "5", 0, "person 5x", 8);
    }

    @Sentence("near A B |")
    void nearLine() {
        rightTowns("near 0 1", "near 002 0", "near0 1");
        wrongTowns("near", 4, "near 0", 6, "near 3 0", 5, "near 0 3", 7, "near 0 0", 7, "near 0 to 1", 7, "near 0 1 2", 9,
            "near 01", 7, "near x 1", 5);
    }

    @Sentence("law N |")
    void lawLine() {
        rightTowns("law 0", "law 10", "law 010", "law3");
        wrongTowns("law", 3, "law 11", 4, "law x", 4, "law 3 4", 6, "law 999", 4, "laws 3", 0);
    }

    @Sentence("give A to B N [ for D ] [ forced ]")
    void giveLine() {
        rightTowns("give 0 to 1 1", "give 0 to 1 99 for 1", "give 0 to 1 9 forced", "give 0 to 1 9 for 99 forced",
            "give0to1 9for9forced");
        wrongTowns("give", 4, "give 0", 6, "give 0 to", 9, "give 0 to 1", 11, "give 0 1 9", 7, "give 0 of 1 9", 7,
            "give 3 to 1 9", 5, "give 0 to 3 9", 10, "give 0 to 0 9", 10, "give 0 to 1 0", 12, "give 0 to 1 100", 12,
            "give 0 to 1 9 for", 17, "give 0 to 1 9 for 0", 18, "give 0 to 1 9 for 100", 18, "give 0 to 1 9 for forced", 18,
            "give 0 to 1 9 forced for 9", 21, "give 0 to 1 9 forced forced", 21, "give 0 to 1 9 for 9 for 9", 20,
            "give 0 to 1 9 force", 14, "give 0 to 1 9 9", 14);
    }

    @Sentence("pass F to B |")
    void passLine() {
        rightTowns("pass 0 to 2", "pass 0 to 1", "pass 0 to 0", "pass0to2");
        wrongTowns("pass", 4, "pass 0", 6, "pass 0 to", 9, "pass 1 to 2", 5, "pass 0 to 3", 10, "pass 0 2", 7,
            "pass 0 of 2", 7, "pass 0 to 2 2", 12, "pass x to 2", 5);
    }

    @Sentence("call F |")
    void callLine() {
        rightTowns("call 0", "call 00", "call0", "call 0;call 0");
        wrongTowns("call", 4, "call 1", 5, "call x", 5, "call 0 0", 7);
    }

    @Sentence("days N |")
    void daysLine() {
        rightTowns("days 1", "days 99", "days 099", "days1");
        wrongTowns("days", 4, "days 0", 5, "days 100", 5, "days x", 5, "days 1 1", 7, "day 1", 0);
    }

    @Sentence("need A of B N.")
    void needLine() {
        rightTowns("need 0 of 1 1", "need 0 of 1 99", "need0of1 9");
        wrongTowns("need", 4, "need 0", 6, "need 0 of", 9, "need 0 of 1", 11, "need 0 to 1 9", 7, "need 3 of 1 9", 5,
            "need 0 of 3 9", 10, "need 0 of 0 9", 10, "need 0 of 1 0", 12, "need 0 of 1 100", 12, "need 0 of 1 9 9", 14);
    }

    @Sentence("A, B, a PERSON that is there by then")
    void aPersonThatIsThereByThen() {
        FavourTown x = new FavourTown();
        check.wrongTown(x, "near 0 1", 5);
        check.wrongTown(x, "person 9;near 0 1;person 9", 16);
        check.wrongTown(x, "person 9;give 1 to 0 1;person 9", 14);
        check.wrongTown(x, "person 9;need 0 of 1 1;person 9", 19);
        check.rightTown(x, "person 9;person 9;near 1 0;need 0 of 1 1;give 1 to 0 1");
        check.wrongTown(x, "pass 0 to 2;person 9", 10);
        check.rightTown(x, "person 9;pass 0 to 2");
        due("told by the text itself", x.look(0, 1), 2);
        FavourTown y = people(12, 9);
        check.rightTown(y, "near 11 10;give 11 to 0 1;pass 0 to 11");
        check.wrongTown(y, "near 12 0", 5);
        check.wrongTown(y, "near 0 12", 7);
    }

    @Sentence("(B is not A: else wrong at B)")
    void bIsNotA() {
        wrongTowns("near 1 1", 7, "near 1 01", 7, "give 2 to  2 5", 11, "need 0 of 000 5", 10, "near 2 2 x", 7,
            "give 1 to 1", 10);
    }

    @Sentence("F: a FAVOUR that is there by then")
    void aFavourThatIsThereByThen() {
        FavourTown x = Check.told(THREE);
        check.wrongTown(x, "call 0", 5);
        check.wrongTown(x, "call 0;give 0 to 1 5", 5);
        check.wrongTown(x, "give 0 to 1 5;call 1", 19);
        check.rightTown(x, "give 0 to 1 5;call 0;give 0 to 1 6;pass 1 to 2");
        due("told by the text itself", x.look(1, 1), 2);
        check.rightTown(x, "call 0;pass 0 to 1");
        check.wrongTown(x, "give 0 to 1 94;call 2", 20);
        FavourTown y = people(2, 999);
        fillWithFavours(y, 1);
        check.rightTown(y, "call 39");
        check.wrongTown(y, "give 0 to 1 1;call 40", 19);
    }

    @Sentence("law: 0 to 10")
    void lawIs0To10() {
        FavourTown x = new FavourTown();
        for (int law = 0; law <= 10; law++) {
            x = law == 6 ? new FavourTown() : x;
            check.rightTown(x, "law " + law);
            due("law", x.count(8), law);
        }
        wrongTowns("law 11", 4, "law 100", 4);
    }

    @Sentence("N of give and need: 1 to 99")
    void amountsOfATextAre1To99() {
        FavourTown x = people(2, 999, "give 0 to 1 1;give 0 to 1 99;need 0 of 1 1;need 0 of 1 99");
        due("1", x.look(0, 2), 1);
        due("99", x.look(1, 2), 99);
        due("needs", x.count(5), 2);
        wrongTowns("give 0 to 1 0", 12, "give 0 to 1 100", 12, "need 0 of 1 0", 12, "need 0 of 1 100", 12,
            "give 0 to 1 000", 12, "need 0 of 1 999", 12);
    }

    @Sentence("D: 1 to 99 (END is DAY and D)")
    void endIsDayAndD() {
        FavourTown x = people(2, 99, "give 0 to 1 1 for 1;give 0 to 1 1 for 99;days 7;give 0 to 1 1 for 99");
        due("for 1 on DAY 0", x.look(0, 5), 1);
        due("for 99 on DAY 0", x.look(1, 5), 99);
        due("for 99 on DAY 7", x.look(2, 5), 106);
        wrongTowns("give 0 to 1 1 for 0", 18, "give 0 to 1 1 for 100", 18);
    }

    @Sentence("days: 1 to 99. NEEDS")
    void daysOfATextAre1To99() {
        FavourTown x = people(2, 99, "days 1;days 99");
        due("DAY", x.count(7), 100);
        wrongTowns("days 0", 5, "days 100", 5);
    }

    @Sentence("NEEDS (at most 12, numbered from 0 on): A needs N WHOLES' worth of B's work.")
    void atMost12Needs() {
        FavourTown x = people(2, 5, times(12, "need 0 of 1 5"));
        due("12", x.count(5), 12);
        yes("the first is 0", x.can(0));
        yes("the last is 11", x.can(11));
        fails("there is no 12", NOBODY, () -> bit(x.can(12)));
        check.wrongTown(x, "need 0 of 1 5", 0);
        due("12 still", x.count(5), 12);
        due("met by A, who gives to B", x.meet(11), 0);
        due("giver", x.look(0, 0), 0);
        due("holder", x.look(0, 1), 1);
    }

    @Sentence("What is refused (a pass to its HOLDER, too) makes no text wrong.")
    void whatIsRefusedIsNotWrong() {
        FavourTown x = people(3, 99, "give 0 to 1 9 for 1");
        has(x, 2, "refuse");
        check.rightTown(x, "give 0 to 1 91");
        check.rightTown(x, "give 0 to 2 1;pass 0 to 2");
        check.rightTown(x, "pass 0 to 1");
        check.rightTown(x, "law 0;pass 0 to 0;law 10");
        due("one favour", x.count(3), 1);
        due("where it was", x.look(0, 1), 1);
        due("no hands", x.look(0, 3), 0);
        check.rightTown(x, "call 0;call 0;pass 0 to 1;pass 0 to 0");
        fillWithFavours(x, 1);
        check.rightTown(x, "give 0 to 1 1");
        due("40 favours", x.count(3), 40);
    }

    @Sentence("TEMPERS (at most 6, numbered from 0 on)")
    void atMost6Tempers() {
        FavourTown x = people(2, 9);
        fails("none yet", NOBODY, () -> x.has(0, 0));
        for (int k = 0; k < 6; k++) {
            due("temper " + k, Check.temper(x, k == 0 ? "" : "take"), k);
        }
        fails("a 7th", FULL, () -> Check.temper(x, "take"));
        fails("a 7th that is empty", FULL, () -> Check.temper(x, ""));
        due("the last is 5", x.has(0, 5), NONE);
        fails("there is no 6", NOBODY, () -> x.has(0, 6));
        due("6", x.count(2), 6);
    }

    @Sentence("texts: LINE { ; LINE }, at most 12")
    void atMost12LinesOfATemper() {
        rightTempers(times(12, "take"), times(12, "refuse if near"));
        wrongTempers(times(13, "take"), 60, times(12, "take") + ";", 60, times(12, "take") + " ; x", 62,
            times(11, "take") + ";near", 55, ";", 0, "take;", 5, "take;;take", 5, "take take", 5, ";take", 0);
    }

    @Sentence("take [ if C ] | refuse [ if C ]")
    void linesOfATemper() {
        rightTempers("take", "refuse", "take if near", "refuse if near");
        wrongTempers("if near", 0, "near", 0, "take if", 7, "take if ", 8, "take near", 5, "refuse if", 9,
            "take if if near", 8, "take if near if near", 13, "take refuse", 5, "taken", 0, "take if take", 8);
    }

    @Sentence("C: ALL { or ALL }; ALL: ATOM { and ATOM }")
    void andBindsCloserThanOr() {
        FavourTown x = people(2, 99, "give 0 to 1 9");
        yes("or, the first", takesIf(x, "1<2 or 2<1", 1, 0));
        yes("or, the last of three", takesIf(x, "2<1 or 2<1 or 1<2", 1, 0));
        no("or, none", takesIf(x, "2<1 or 2<1", 1, 0));
        yes("and, all three", takesIf(x, "1<2 and 1<2 and 1<2", 1, 0));
        no("and, not the last", takesIf(x, "1<2 and 1<2 and 2<1", 1, 0));
        no("and, not the first", takesIf(x, "2<1 and 1<2", 1, 0));
        yes("true or false and false", takesIf(x, "1<2 or 2<1 and 2<1", 1, 0));
        yes("false and false or true", takesIf(x, "2<1 and 2<1 or 1<2", 1, 0));
        no("false and true or false", takesIf(x, "2<1 and 1<2 or 2<1", 1, 0));
        yes("two ands, the last holds", takesIf(x, "1<2 and 2<1 or 1<2 and 1<2", 1, 0));
        wrongTempers("take if near or", 15, "take if near and ", 17, "take if or near", 8, "take if near or and near", 16,
            "take if and", 8, "take if near or;take", 15, "take if near near", 13);
    }

    @Sentence("ATOM: not ATOM | ( C ) | near | timed | again | SUM \u2039 SUM | SUM \u203a SUM")
    void atoms() {
        FavourTown x = people(2, 99, "give 0 to 1 9");
        no("not of what holds", takesIf(x, "not 1<2", 1, 0));
        yes("not of what does not", takesIf(x, "not 2<1", 1, 0));
        no("not is of one atom alone", takesIf(x, "not 2<1 and 2<1", 1, 0));
        no("not of brackets", takesIf(x, "not (2<1 or 1<2)", 1, 0));
        yes("brackets first", takesIf(x, "(1<2 or 2<1) and 1<2", 1, 0));
        no("brackets last", takesIf(x, "1<2 and (2<1 or 2<1)", 1, 0));
        no("alike is not below", takesIf(x, "9<9", 1, 0));
        no("alike is not above", takesIf(x, "9>9", 1, 0));
        yes("below by one", takesIf(x, "8<9", 1, 0));
        yes("above by one", takesIf(x, "9>8", 1, 0));
        wrongTempers("take if not", 11, "take if ()", 9, "take if (near", 13, "take if near)", 12, "take if (near))", 14,
            "take if (near or)", 16, "take if (1)<2", 10, "take if 1", 9, "take if 1<", 10, "take if 1=2", 9,
            "take if 1<2<3", 11, "take if near<1", 12, "take if <1", 8, "take if 1 near", 10, "take if not and near", 12);
    }

    @Sentence("SUM: PART { + PART }")
    void sums() {
        FavourTown x = people(2, 99, "give 0 to 1 9");
        yes("a sum", takesIf(x, "1+2+3>5", 1, 0));
        no("just so", takesIf(x, "1+2+3>6", 1, 0));
        yes("the longest in a text", takesIf(x, times(90, "999").replace(';', '+') + "<worth", 1, 0) == false);
        yes("just the longest", takesIf(x, times(90, "999").replace(';', '+') + ">999", 1, 0));
        rightTempers("take if " + "1+".repeat(194) + "1<1", "take if " + "1+".repeat(194) + "1<1 ");
        wrongTempers("take if 1+<3", 10, "take if +1<3", 8, "take if 1<2+", 12, "take if 1++2<3", 10, "take if 1<+2", 10,
            "take if 1 2<3", 10, "take if worth+near<3", 14, "take if 1-1<3", 9);
    }

    @Sentence("PART: NUMBER | worth | amount | hands | left | owed | debt.")
    void parts() {
        rightTempers("take if 0<worth", "take if amount<hands", "take if left<owed", "take if debt<999",
            "take if worth+amount+hands+left+owed+debt+0<1");
        wrongTempers("take if day<1", 8, "take if worths<1", 8, "take if law>1", 8, "take if 1<limit", 10);
    }

    @Sentence("All numbers are of 1 to 3 digits.")
    void numbersOf1To3Digits() {
        rightTowns("person 1", "person 01", "person 001", "near 000 001");
        rightTempers("take if 0<1", "take if 00<01", "take if 000<999");
        wrongTowns("person 0001", 7, "near 0000 1", 5, "give 0 to 1 0009", 12, "law 0000", 4, "days 99999999999", 5);
        wrongTempers("take if 0001<2", 8, "take if 1<1000", 10, "take if 1<00000000000000000001", 10);
    }

    @Sentence("Words are as long as a to z go on")
    void wordsGoOn() {
        wrongTowns("persons 1", 0, "personz 1", 0, "persona 1", 0, "perso 1", 0, "givea 0", 0, "give 0 too 1 9", 7, "give 0 to 1 9 forforced", 14,
            "per son 1", 0, "callcall 0", 0);
        rightTowns("person1", "give 0 to1 9", "call 0;call 0");
        wrongTempers("takes", 0, "takeif near", 0, "take if nearor timed", 8, "take if notnear", 8, "tak", 0);
        rightTempers("take if not(near)or(timed)", "take if 1<worth or 2>hands");
        // the signs next to a and z are no letters
        wrongTowns("call`0", 4, "call{0", 4, "Call 0", 0, "callA0", 4);
    }

    @Sentence("between all there may be blanks (32), also ahead and behind.")
    void blanksBetween() {
        rightTowns(" person 1", "person 1 ", "  near   0   1  ;  law  3  ", "give 0 to 1 9   for 3   forced   ");
        rightTempers("  take  if  (  near  )  or  1  +  2  <  3  ;  refuse  ", "take if(near)or 1+2<3;refuse");
        wrongTowns("person\t1", 6, "person 1\n", 8, "\rperson 1", 0, "person\u00a01", 6, "person\u001f1", 6, "person!1", 6);
        wrongTempers("take\tif near", 4, "take\n", 4, "take if near\u0000", 12);
        FavourTown x = people(2, 99);
        due("blanks up to the last of 400 bytes", Check.town(x, " ".repeat(390) + " person 12"), 2);
        check.wrongTown(x, " ".repeat(399) + "x", 399);
        check.wrongTown(x, "law" + " ".repeat(397), 400);
    }

    @Sentence("A text that is empty, or blanks alone, has no LINE.")
    void anEmptyTextHasNoLine() {
        FavourTown x = new FavourTown();
        due("empty", Check.town(x, ""), 1);
        due("a blank", Check.town(x, " "), 2);
        due("400 blanks", Check.town(x, " ".repeat(400)), 3);
        due("fault", x.fault(), NONE);
        due("an empty temper", Check.temper(x, ""), 0);
        due("a temper of 400 blanks", Check.temper(x, " ".repeat(400)), 1);
        due("fault of it", x.fault(), NONE);
    }

    @Sentence("( and not within one another at most 6 deep.")
    void atMost6Deep() {
        rightTempers("take if ((((((near))))))", "take if not not not not not not near", "take if not(not(not(near)))",
            "take if (not(not(not near)))", "take if ((((((near)))))) and ((((((near)))))) or not not not not not not near",
            "take if (((((near or not near)and(near)))))", "take if ((((((1+2<3))))))",
            "take if not near and not near and not near and not near and not near and not near and not near");
        FavourTown x = people(2, 99, "give 0 to 1 9");
        yes("six nots", takesIf(x, "not not not not not not 1<2", 1, 0));
        no("five nots", takesIf(x, "not not not not not 1<2", 1, 0));
        String six = "2<1 or 1<2 and (2<1 or 1<2 and (2<1 or 1<2 and (2<1 or 1<2 and (2<1 or 1<2 and (2<1 or 1<2 and (";
        yes("the fullest six", takesIf(x, six + "2<1 or 1<2 and 1+1<1+2))))))", 1, 0));
        no("the fullest six that fail", takesIf(x, six + "2<1 or 1<2 and 1+2<1+2))))))", 1, 0));
    }

    @Sentence("The first wrong byte: the begin of the first thing that cannot stand there")
    void theBeginOfTheFirstWrongThing() {
        wrongTowns("law 3;  laws 4;law 99", 8, "x", 0, "   x", 3, "law 3 ,law 99", 6, "law  3333 x", 5);
        wrongTempers("take;  takes;x", 7, "x", 0, "take if  nearby or x", 9, "take if near  )", 14);
        FavourTown x = new FavourTown();
        check.wrongTown(x, "law\u00ff3", 3);
        check.wrongTown(x, "\u0080", 0);
    }

    @Sentence("(a number of more digits, or out of its bounds")
    void aNumberOutOfItsBounds() {
        wrongTowns("person 1000 ", 7, "law  0010", 5, "law 0011", 4, "law 11", 4, "days 000", 5, "person 12345678901234567890", 7,
            "give 0 to 1 100 for 3", 12, "give 0 to 1 1 for 100 forced", 18, "need 0 of 1 00", 12);
        wrongTempers("take if 1000>1", 8, "take if worth+1000>1", 14);
    }

    @Sentence("or that tells none that is there")
    void aNumberThatTellsNone() {
        wrongTowns("near 3 1", 5, "near 1 3", 7, "give 999 to 1 1", 5, "give 0 to 12 1", 10, "pass 1 to 0", 5, "pass 0 to 3", 10,
            "call 40", 5, "need 3 of 0 1", 5, "need 0 of 3 1", 10);
    }

    @Sentence("a word that is none")
    void aWordThatIsNone() {
        wrongTowns("word", 0, "law 3;word", 6, "law word", 4, "give 0 word 1 1", 7, "give 0 to 1 1 word", 14, "to", 0, "forced", 0);
        wrongTempers("word", 0, "take word", 5, "take if word", 8, "take if near word", 13, "take if 1<word", 10);
    }

    @Sentence("the ( or not that is a 7th one deep")
    void the7thOneDeep() {
        wrongTempers("take if (((((((near)))))))", 14, "take if not not not not not not not near", 32,
            "take if ((((((not near))))))", 14, "take if not not not not not not (near)", 32,
            "take if near or not(not(not((near))))", 28, "take if ((((((near)))))) and (((((( (", 36,
            "take if ((((((near or not near))))))", 22, "take if ((((((near or (near)))))))", 22);
    }

    @Sentence("of a LINE too many")
    void theFirstWordOfALineTooMany() {
        FavourTown x = Check.told(THREE);
        check.wrongTown(x, times(14, "law 1") + ";  law 1", 86);
        check.wrongTown(x, times(14, "law 1") + ";law 99", 84);
        check.wrongTown(x, times(14, "law 1") + " law 1", 84);
        wrongTempers(times(12, "take") + " ;  take if", 63, times(12, "take") + ";refuse", 60);
    }

    @Sentence("or of a 13th PERSON or NEED, the first word)")
    void theFirstWordOfA13th() {
        FavourTown x = people(11, 9);
        check.wrongTown(x, "person 9; person 9", 10);
        due("11 people", x.count(0), 11);
        check.rightTown(x, "person 9");
        check.wrongTown(x, "person", 0);
        check.wrongTown(x, "law 3;  person 1000", 8);
        check.rightTown(x, times(11, "need 0 of 1 1"));
        check.wrongTown(x, "need 0 of 1 1;need 0 of 1 1", 14);
        check.rightTown(x, "need 0 of 1 1");
        check.wrongTown(x, " need", 1);
        check.wrongTown(x, "need 12 of 12", 0);
    }

    @Sentence("or the text's length, if more must come.")
    void theLengthIfMoreMustCome() {
        wrongTowns("person", 6, "person   ", 9, "law 1;", 6, "law 1;  ", 8, "near 0", 6, "give 0 to 1 ", 12, "pass 0 to", 9,
            "give 0 to 1 9 for ", 18, "need 0 of 1", 11);
        wrongTempers("take if", 7, "take;", 5, "take ; ", 7, "take if (", 9, "take if (near  ", 15, "take if not", 11,
            "take if 1", 9, "take if 1+", 10, "take if 1 < ", 12, "take if near and", 16);
    }

    @Sentence("Of a wrong text nothing stays.")
    void ofAWrongTextNothingStays() {
        FavourTown x = people(3, 99, "near 0 1;give 0 to 1 8;give 1 to 0 3 for 9;need 0 of 1 2");
        has(x, 2, "take");
        Check.ring(x, "ab");
        String before = seen(x);
        String all = "person 5;near 0 2;law 2;give 0 to 2 9;pass 0 to 2;call 1;days 50;need 1 of 0 1;give 3 to 0 1;near 3 1;";
        check.wrongTown(x, all, 102);
        check.wrongTown(x, all + "person 1000", 109);
        due("as ahead of it: " + seen(x), bit(seen(x).equals(before)), 1);
        no("the pair is not near", takesIf(x, "near", 2, 0));
        due("its temper", x.has(2, NONE), 0);
        check.wrongTemper("take;take;refuse;near", 17);
        fails("a wrong temper", WRONG, () -> Check.temper(x, "take;takes"));
        due("tempers", x.count(2), 1);
        due("the next temper", Check.temper(x, "refuse"), 1);
        x.has(2, 1);
        no("has no lines of the wrong one", x.takes(2, 0));
    }
}
