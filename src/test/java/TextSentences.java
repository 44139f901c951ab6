// The sentences on texts: of 'Terms' those on the tape, tokens, faults and names; promises 6 to 8.
public final class TextSentences extends Bench {
    public static void main(String[] args) {
        run(TextSentences.class);
    }

    /** A text has a fault at a place; the tape is empty then, and there is no text more. */
    private static void fault(String text, int place) {
        DukeIsLost x = new DukeIsLost();
        due("'" + text + "'", text(x, text), -100 - place);
        due("bytes behind '" + text + "'", x.count(4), 0);
        due("TEXTS behind '" + text + "'", x.count(3), 1);
    }

    /** A text has no fault. */
    private static void fine(String text) {
        DukeIsLost x = new DukeIsLost();
        due("'" + text + "'", text(x, text), 1);
        due("bytes behind '" + text + "'", x.count(4), 0);
        due("TEXTS behind '" + text + "'", x.count(3), 2);
    }

    /** An E may stand as it is, and is true, or isn't: he may stay at 0, or goes to 1. */
    private static void truth(String e, boolean want) {
        DukeIsLost x = duchy("01 02");
        rule(x, "goes to=1;stays " + e + ";sees 0;");
        due(e, x.told(0, 10), want ? 3 : 2);
    }

    /** An E in brackets has a value, and neither 1 more nor 1 less. */
    private static void value(String e, int want) {
        for (int off = -1; off < 2; off++) {
            truth("(" + e + ")-(" + want + ")=" + off, off == 0);
        }
    }

    // ---- THE TAPE, TOKENS

    @Holds("A TEXT is read from THE TAPE (160 bytes at most)")
    static void terms_theTapeHas160BytesAtMost() {
        DukeIsLost x = new DukeIsLost();
        for (int i = 1; i <= 160; i++) {
            due("feed", x.feed(' '), i);
        }
        due("one more", x.feed(' '), FULL);
        due("160 yet", x.count(4), 160);
        due("read to its end", x.text(), -260);
        due("feed", x.feed(' '), 1);
    }

    @Holds("A TEXT is read from THE TAPE")
    static void terms_aTextOf160BytesIsReadToItsLastOne() {
        String blanks = " ".repeat(160 - PLAIN.length());
        fine(blanks + PLAIN);
        fine(PLAIN + blanks);
        String head = "goes 1;stays 0;sees 1";
        fine(head + " ".repeat(159 - head.length()) + ";");
        fault(head + " ".repeat(159 - head.length()) + "$", 159);
        fault(head + " ".repeat(160 - head.length()), 160);
        // As many signs as there is room for: the last of them counts.
        String sum = "1" + "-1".repeat(68);
        String long160 = "goes0;stays " + sum + "+67;sees 1;";
        due("its size", long160.length(), 160);
        DukeIsLost x = duchy("01");
        rule(x, long160);
        due("1 less 68, and 67, is 0: he stays, as he can't go", x.told(0, 10), 1);
        DukeIsLost y = duchy("01");
        rule(y, "goes1;stays " + sum + "+67;sees 1;");
        due("he can't stay", y.told(0, 10), 2);
        DukeIsLost w = duchy("01");
        rule(w, "goes1;stays " + sum + "+66;sees 1;");
        due("he may stay", w.told(0, 10), 3);
    }

    @Holds("TOKENS, each as long as can be")
    static void terms_tokensAreAsLongAsCanBe() {
        fault("goesplace;", 0);
        fault("goes placeto;", 5);
        fault("goes notplace;", 5);
        fault("goes 1 orto;", 7);
        fault("goes 1 andnot 1;", 7);
        fault("goes 1;staysplace;", 7);
        fault("goes 12345;", 5);
        fine("goes1;stays0;sees1;");
        fine("goes 1or 2and 3;stays(0)or(1);sees not(1);");
        fault("goes to1;", 7);
        fault("goes 1to;", 6);
    }

    @Holds("WORDS (a .. z)")
    static void terms_wordsAreOfAToZ() {
        fault("goes A;", 5);
        fault("goes Z;", 5);
        fault("goes `;", 5);
        fault("goes {;", 5);
        fault("Goes 1;", 0);
        fault("goeS 1;", 0);
        fault("goes place_;", 10);
        fault("goes placE;", 5);
        fault("goes a;", 5);
        fault("goes z;", 5);
        fault("goes placez;", 5);
        fault("goes aplace;", 5);
        fault("goes zplace;", 5);
        fault("goesz 1;", 0);
        fault("goes 1 az 1;", 7);
        fault("goes " + (char) 233 + ";", 5);
    }

    @Holds("NUMBERS (digits, 4 at most)")
    static void terms_numbersHave4DigitsAtMost() {
        value("0", 0);
        value("9", 9);
        value("9999", 9999);
        value("0000", 0);
        value("0123", 123);
        value("1009", 1009);
        fault("goes 10000;", 5);
        fault("goes 00000;", 5);
        fault("goes 1+99999;", 7);
        fault("goes /;", 5);
        fault("goes :;", 5);
        fault("goes 1/;", 6);
        fault("goes 1:;", 6);
    }

    @Holds("SIGNS ( ) ; + - * < =")
    static void terms_noOtherByteIsASign() {
        for (int b = 0; b < 256; b++) {
            char c = (char) b;
            boolean begins = c >= 'a' && c <= 'z' || c >= '0' && c <= '9' || "();+-*<= \n".indexOf(c) >= 0;
            if (!begins) {
                fault("goes 1" + c + "2;stays 0;sees 1;", 6);
                fault(c + PLAIN, 0);
                fault(PLAIN + c, PLAIN.length());
            }
        }
        for (String sign : new String[] {"+", "-", "*", "<", "="}) {
            fine("goes 1" + sign + "2;stays 0;sees 1;");
        }
        fine("goes (1);stays -0;sees 1;");
    }

    @Holds("blanks (32, 10) may stand between")
    static void terms_blanksAre32And10() {
        fine("goes1;stays0;sees1;");
        fine("  goes  1  ;  stays  0  ;  sees  1  ;  ");
        fine("\n\ngoes\n1\n;\nstays\n0\n;\nsees\n1\n;\n\n");
        fine("\n goes\n ( \n1 +\n2 )\n ; stays - \n1 ; sees 1 < \n 2 ;");
        fault("go es 1;", 0);
        fault("goes 1 2;", 7);
        fault("goes pl\nace;", 5);
        for (int b : new int[] {0, 9, 11, 12, 13, 31, 33, 160}) {
            fault("goes" + (char) b + "1;stays 0;sees 1;", 4);
            fault(PLAIN + (char) b, PLAIN.length());
        }
    }

    // ---- the form of a text

    @Holds("TEXT: goes E ; stays E ; sees E ;")
    static void terms_aTextHasThreePartsInOrder() {
        fine("goes 1;stays 0;sees 1;");
        fault("stays 0;goes 1;sees 1;", 0);
        fault("sees 1;", 0);
        fault("goes 1;sees 1;stays 0;", 7);
        fault("goes 1;goes 1;", 7);
        fault("goes 1;stays 0;stays 0;", 15);
        fault("goes 1 stays 0;", 7);
        fault("goes ;stays 0;sees 1;", 5);
        fault("goes 1;stays;sees 1;", 12);
        fault("goes 1;stays 0;sees;", 19);
        fault("1;stays 0;sees 1;", 0);
        fault("goes 1;;stays 0;sees 1;", 7);
        fault("goes 1;stays 0;sees 1;;", 22);
        for (String token : new String[] {"goes", "or", "not", "place", "1", "(", ")", ";", "+", "-", "<", "="}) {
            fault(PLAIN + token, 22);
            fault(PLAIN + " " + token, 23);
        }
        fault(";", 0);
    }

    @Holds("E: AND { or AND }")
    static void terms_orJoinsAnds() {
        truth("0 or 0", false);
        truth("0 or 0 or 1", true);
        truth("1 or 0 and 0", true);
        truth("0 and 0 or 1", true);
        truth("0 and (0 or 1)", false);
        truth("0 or 0 or 0 or 0 or 0 or 0 or 0 or 0 or 0 or 0 or 0 or 0 or 0 or 0 or 0 or 0 or 0 or 1", true);
        fault("goes or 1;", 5);
        fault("goes 1 or;", 9);
        fault("goes 1 or or 1;", 10);
        fault("goes 1 or ;", 10);
    }

    @Holds("AND: NOT { and NOT }")
    static void terms_andJoinsNots() {
        truth("1 and 0", false);
        truth("1 and 1 and 0", false);
        truth("1 and not 0", true);
        truth("not 1 and 0", false);
        truth("not (1 and 0)", true);
        truth("1 and 1 and 1 and 1 and 1 and 1 and 1 and 1 and 1 and 1 and 1 and 1 and 1 and 1 and 0", false);
        fault("goes and 1;", 5);
        fault("goes 1 and;", 10);
        fault("goes 1 and or 1;", 11);
    }

    @Holds("NOT: not NOT, or SUM, perhaps < or = and a SUM.")
    static void terms_aNotHasOneComparisonAtMost() {
        truth("not 0", true);
        truth("not not 0", false);
        truth("not 2<1", true);
        truth("not 2=2", false);
        truth("not 1+1", false);
        truth("2<1+2", true);
        truth("1+2<2", false);
        truth("3=1+2", true);
        fault("goes 1<2<3;", 8);
        fault("goes 1<2=3;", 8);
        fault("goes 1=2<3;", 8);
        fault("goes 1=2=3;", 8);
        fault("goes not 1<2<3;", 12);
        fault("goes (1<2)<(1=2)=1;", 16);
        fault("goes <1;", 5);
        fault("goes 1<;", 7);
        fault("goes 1=<1;", 7);
        fault("goes 1<not 2;", 7);
        fault("goes 1+not 2;", 7);
        fault("goes 1*not 2;", 7);
        fault("goes -not 2;", 6);
        fault("goes 1 not 2;", 7);
        fault("goes not;", 8);
        fine("goes 1<(not 2);stays 1 or not 0=1;sees 1 and not 2<3;");
        fine("goes 1<2 and 2<3;stays 1=2 or 2=3;sees (1<2)=(2<3);");
    }

    @Holds("SUM: TERM { + or - TERM }.")
    static void terms_aSumIsReadFromTheLeft() {
        value("10-3-2", 5);
        value("10-3+2", 9);
        value("2+3*4", 14);
        value("2*3+4", 10);
        value("20-2*3", 14);
        value("20*2-3", 37);
        value("1-1-1-1", -2);
        fault("goes +1;", 5);
        fault("goes 1++1;", 7);
        fault("goes 1-+1;", 7);
        fault("goes 1+;", 7);
        fault("goes 1-;", 7);
        value("1--1", 2);
        value("1+-1", 0);
    }

    @Holds("TERM: ONE { * ONE }.")
    static void terms_aTermJoinsOnes() {
        value("2*3*4", 24);
        value("2*-3", -6);
        value("-2*3", -6);
        value("(2+3)*4", 20);
        fault("goes *1;", 5);
        fault("goes 1**1;", 7);
        fault("goes 1*;", 7);
    }

    @Holds("ONE: a NUMBER, a NAME, - ONE, ( E ).")
    static void terms_oneIsANumberANameAMinusOrABracket() {
        value("-3", -3);
        value("--3", 3);
        value("-(3)", -3);
        value("-(1+2)", -3);
        value("(((7)))", 7);
        value("(1<2)+(2<1)+(1 or 0)", 2);
        fault("goes ();", 6);
        fault("goes (1;", 7);
        fault("goes 1);", 6);
        fault("goes (1));", 8);
        fault("goes (1)(1);", 8);
        fault("goes 1(1);", 6);
        fault("goes (;", 6);
        fault("goes );", 5);
        fault("goes -;", 6);
        fault("goes 1 place;", 7);
        fault("goes place 1;", 11);
        fault("goes (1;);", 7);
    }

    @Holds("NAMES are place to week number ways pose")
    static void terms_thereAreSixNames() {
        for (String name : new String[] {"place", "to", "week", "number", "ways", "pose"}) {
            fine("goes " + name + ";stays " + name + ";sees " + name + ";");
            fault("goes " + name + "s;", 5);
            fault("goes " + name.substring(1) + ";", 5);
            fault("goes " + name.substring(0, name.length() - 1) + ";", 5);
            fault(name + " 1;", 0);
            for (int i = 0; i < name.length(); i++) {
                fault("goes " + name.substring(0, i) + "x" + name.substring(i + 1) + ";", 5);
            }
        }
    }

    @Holds("goes, stays, sees, or, and, not are KEYS")
    static void terms_thereAreSixKeysWhichAreNoNames() {
        for (String key : new String[] {"goes", "stays", "sees", "or", "and"}) {
            fault("goes " + key + ";", 5);
            fault("goes 1+" + key + ";", 7);
            fault("goes (" + key + ");", 6);
        }
        fault("goes 1+not;", 7);
        for (String key : new String[] {"goes", "stays", "sees", "not"}) {
            fault("goes 1 " + key + " 1;", 7);
        }
        fault("go 1;", 0);
        fault("goess 1;", 0);
        fault("xoes 1;", 0);
        fault("goes 1;stay 1;", 7);
        fault("goes 1;xtays 1;", 7);
        fault("goes 1;stays 1;xees 1;", 15);
        fault("goes 1 nor 1;", 7);
        fault("goes 1 xr 1;", 7);
        fault("goes 1 xnd 1;", 7);
        fault("goes xot 1;", 5);
    }

    @Holds("An E is an int (32 bits, wrapping)")
    static void terms_anEWrapsAt32Bits() {
        truth("4096*4096*256", false);
        truth("4096*4096*128<0", true);
        truth("0<4096*4096*128-1", true);
        truth("4096*4096*64*2<0", true);
        truth("4096*4096*127<0", false);
        value("4096*4096*256+7", 7);
        truth("-(4096*4096*128)=4096*4096*128", true);
        truth("-(4096*4096*128)<0", true);
        truth("9999*9999*9999+1027*1000*1000=-(349*1000+969)", true);
        // A difference may wrap, a comparison doesn't.
        truth("4096*4096*128<1", true);
        truth("1<4096*4096*128", false);
    }

    @Holds("of or, and, not, <, = 1 or 0 (what is not 0 is true)")
    static void terms_ofOrAndNotLessEqualsIs1Or0() {
        value("7 or 0", 1);
        value("0 or 7", 1);
        value("3 or 4", 1);
        value("0 or 0", 0);
        value("2 and 4", 1);
        value("0 and 4", 0);
        value("4 and 0", 0);
        value("-1 and -1", 1);
        value("not 7", 0);
        value("not -1", 0);
        value("not 0", 1);
        value("2<3", 1);
        value("3<3", 0);
        value("4<3", 0);
        value("-1<0", 1);
        value("3=3", 1);
        value("3=4", 0);
        truth("2", true);
        truth("-1", true);
        truth("0", false);
    }

    // ---- FAULT

    @Holds("FAULT: the place of the first byte of the first TOKEN that can't stand there")
    static void terms_theFirstFaultIsTold() {
        fault("goes 1 place $ 12345;", 7);
        fault("goes 1;stays ) ( ;", 13);
        fault("goes 1;stays 1 ways;sees $", 15);
        fault("  place;", 2);
        fault("goes\n\n  sees", 8);
    }

    @Holds("(the text's size, if it ends too early)")
    static void terms_aTextThatEndsTooEarlyHasItsFaultAtItsSize() {
        for (int size = 0; size < PLAIN.length(); size++) {
            // Whole words alone: a piece of one is a WORD that is none.
            String part = PLAIN.substring(0, size);
            boolean inside = size > 0 && Character.isLetter(PLAIN.charAt(size - 1))
                    && Character.isLetter(PLAIN.charAt(size));
            if (!inside) {
                fault(part, size);
                fault(part + " ", size + 1);
                fault(part + "\n\n", size + 2);
            }
        }
        fault("goes (1", 7);
        fault("goes not", 8);
        fault("goes -", 6);
        fault("goes 1<", 7);
        fault(" ".repeat(160), 160);
    }

    @Holds("also of a byte that begins none")
    static void terms_aByteThatBeginsNoTokenIsAFault() {
        fault("goes 1$;", 6);
        fault("goes $;", 5);
        fault("goes 1+$;", 7);
        fault("$", 0);
        fault("goes 1;stays 0;sees 1; $", 23);
        fault("goes 1 " + (char) 255, 7);
        fault("goes 1 " + (char) 0, 7);
    }

    @Holds("a WORD that is neither KEY nor NAME")
    static void terms_aWordThatIsNeitherIsAFault() {
        fault("duke", 0);
        fault("goes duke;", 5);
        fault("goes 1 duke 1;", 7);
        fault("goes 1;stays duke;", 13);
        fault("goes 1;stays 0;sees 1;duke", 22);
        fault("goes numbers;", 5);
        fault("goes " + "a".repeat(155), 5);
        // Whatever stands ahead of it.
        fault("goes 1-duke 2;", 7);
        fault("goes -duke 2;", 6);
        fault("goes not duke 1;", 9);
        fault("goes (duke 1));", 6);
        fault("goes ((1) duke;", 10);
        fault("goes 1+duke;", 7);
        fault("goes 1 and duke;", 11);
        fault("goes place duke;", 11);
    }

    @Holds("a NUMBER that is too long")
    static void terms_aNumberThatIsTooLongIsAFault() {
        fault("goes 12345;", 5);
        fault("goes 1+12345;", 7);
        fault("goes " + "0".repeat(155), 5);
        fault("goes (99999);", 6);
        fault("12345", 0);
        fault("goes 1;stays 0;sees 1;12345", 22);
    }

    @Holds("a ( , a not, a - ahead of a ONE while 5 of these are open")
    static void terms_aSixthOpenOneIsAFault() {
        fine("goes (((((1)))));stays -----1;sees not not not not not 1;");
        fault("goes ((((((1))))));", 10);
        fault("goes ------1;", 10);
        fault("goes not not not not not not 1;", 25);
        fine("goes not (-(-1));stays not not ((-1));sees (((--1)));");
        fault("goes not (-(-(1)));", 13);
        fault("goes (((((-1)))));", 10);
        fault("goes (((((not 1)))));", 10);
        fault("goes -----(1);", 10);
        fault("goes not not not not not (1);", 25);
        fault("goes not not not not not -1;", 25);
        fault("goes 1;stays 1;sees ((((((1))))));", 25);
        // A - between two TERMS is none of these.
        fine("goes (((((1-1-1-1-1-1-1)))));stays 1-1-1-1-1-1-1-1;sees 1;");
    }

    @Holds("(a ( till its ) ,")
    static void terms_aBracketIsOpenTillItsEnd() {
        fine("goes (1)+(1)+(1)+(1)+(1)+(1)+(1);stays ((((1))))*(((((1)))));sees 1;");
        fine("goes (((((1)))))+(((((1)))));stays (((((1)+1)+1)+1)+1);sees 1;");
        fault("goes (1)+((((((1))))));", 14);
        fault("goes ((1)+(((((1))))));", 14);
        fine("goes ((1)+((((1)))));stays 1;sees 1;");
        // The parts begin anew, and so does each text.
        fine("goes (((((1)))));stays (((((1)))));sees (((((1)))));");
        DukeIsLost x = new DukeIsLost();
        due("five are open at its fault", text(x, "goes (((((;"), -110);
        due("in the next none is", text(x, "goes (((((1)))));stays 1;sees 1;"), 1);
    }

    @Holds("not and - till what they belong to ends)")
    static void terms_aNotAndAMinusAreOpenTillTheirPartEnds() {
        // A - belongs to a ONE: behind it 5 more may stand.
        fine("goes -1*-----1;stays -1+(((((1)))));sees -(1)<(((((1)))));");
        fine("goes -1--1--1--1--1--1--1--1;stays 1;sees 1;");
        fault("goes -1*------1;", 13);
        // A not belongs to a NOT: a comparison with all of its sums and terms.
        fine("goes not 1 and (((((1)))));stays not 1<2 or (((((1)))));sees 1;");
        fine("goes not 1 and not 1 and not 1 and not 1 and not 1 and not 1 or not 1;stays 1;sees 1;");
        fault("goes not 1+(((((1)))));", 15);
        fault("goes not 1*(((((1)))));", 15);
        fault("goes not 1<(((((1)))));", 15);
        fault("goes not 1=-----1;", 15);
        fine("goes not 1<((((1))));stays 1;sees 1;");
        fault("goes not not 1<((((1))));", 18);
        fine("goes not not 1<(((1)));stays 1;sees 1;");
        // What stands in a bracket ends with it.
        fine("goes (not 1)<((((1))));stays (-1)*(((((1)))));sees 1;");
        fault("goes (not 1<((((1)))));", 15);
    }

    // ---- TEXTS, their names

    @Holds("There are 6 TEXTS at most, TEXT 0 with them.")
    static void terms_thereAreSixTextsAtMost() {
        DukeIsLost x = new DukeIsLost();
        due("one at first", x.count(3), 1);
        for (int i = 1; i < 6; i++) {
            due("text", text(x, PLAIN), i);
        }
        due("six", x.count(3), 6);
        due("a seventh", text(x, PLAIN), FULL);
        due("six", x.count(3), 6);
        due("the last", x.force(5), 0);
        due("none more", x.force(6), BAD);
    }

    @Holds("place: where he is (of sees: where both are)")
    static void terms_placeIsWhereHeIs() {
        DukeIsLost x = duchy("01 12 23 34 45 56 67");
        x.finder(0, 0, 3);
        rule(x, "goes place=7;stays place=5;sees place=6 or place=0;");
        due("7 goes", x.told(7, 10), 64);
        due("6 doesn't", x.told(6, 10), 64);
        due("5 stays", x.spread(32, 0), 32);
        due("seen where both are, not where one stands now", x.told(0, 8), 65);
    }

    @Holds("to: of goes the PLACE to which, else 0")
    static void terms_toIs0ButOfGoes() {
        DukeIsLost x = duchy("01 12 23 27");
        x.finder(0, 0, 0);
        rule(x, "goes to=7;stays to=0;sees to=0;");
        due("2 goes to 7, or stays", x.told(2, 10), 132);
        due("1 stays", x.told(1, 10), 2);
        due("sees", x.told(0, 8), 255);
        DukeIsLost y = duchy("01 12 23 27");
        y.finder(0, 0, 7);
        rule(y, "goes 1;stays to;sees to;");
        due("7 doesn't stay", y.told(7, 10), 4);
        due("sees", y.told(0, 8), 0);
        rule(y, "goes to;stays 0;sees 1;");
        due("goes to 2, not to 0", y.told(1, 10), 4);
    }

    @Holds("week: WEEK")
    static void terms_weekIsWeek() {
        DukeIsLost x = duchy("01");
        x.finder(0, 0, 0);
        rule(x, "goes week=999;stays week=0;sees week=998;");
        due("stays in 0", x.told(0, 10), 1);
        x.set(0, 0, 999);
        due("goes in 999", x.told(0, 10), 2);
        due("doesn't see in 999", x.told(0, 8), 0);
        x.set(0, 0, 998);
        due("sees in 998", x.told(0, 8), 255);
        due("can do neither in 998", x.told(0, 10), 1);
    }

    @Holds("number: of sees NUMBER, else 0")
    static void terms_numberIs0ButOfSees() {
        DukeIsLost x = duchy("01");
        x.finder(0, 9, 0);
        x.finder(0, 0, 0);
        rule(x, "goes number;stays number=0;sees number;");
        due("goes is 0, stays isn't", x.told(0, 10), 1);
        due("sees of NUMBER 9", x.told(0, 8), 255);
        due("sees of NUMBER 0", x.told(1, 8), 0);
        x.set(4, 0, 0);
        x.set(4, 1, 1);
        due("sees of NUMBER 0", x.told(0, 8), 0);
        due("sees of NUMBER 1", x.told(1, 8), 255);
        due("goes is 0 yet", x.told(0, 10), 1);
    }

    @Holds("ways: how many PLACES are BESIDE that one")
    static void terms_waysAre0To7() {
        DukeIsLost x = duchy("01 02 03 04 05 06 07 12");
        x.finder(0, 0, 5);
        rule(x, "goes ways=7;stays ways=1;sees ways=7 or ways=2;");
        due("0 has 7 ways and goes", x.told(0, 10), 254);
        due("3 has 1 and stays", x.told(3, 10), 8);
        due("of goes the ways from where he is, not from where he goes to", x.told(1, 10), 2);
        due("of sees those where both are", x.told(0, 8), 7);
        DukeIsLost y = duchy("01");
        y.finder(0, 0, 0);
        rule(y, "goes 1;stays 0;sees ways=0;");
        due("no ways from 2 .. 7", y.told(0, 8), 252);
    }

    @Holds("pose: POSE")
    static void terms_poseIsPose() {
        DukeIsLost x = duchy("01");
        x.finder(0, 0, 0);
        rule(x, "goes pose=9;stays pose=0;sees pose=9;");
        due("stays", x.told(0, 10), 1);
        due("doesn't see", x.told(0, 8), 0);
        x.set(1, 0, 9);
        due("goes", x.told(0, 10), 2);
        due("sees", x.told(0, 8), 255);
    }

    @Holds("TEXT 0, at first THE RULE, is: goes 1 ; stays 0 ; sees 1 ;")
    static void terms_text0IsTheRuleAtFirst() {
        DukeIsLost x = duchy("01 12");
        x.finder(0, 0, 0);
        due("THE RULE", x.count(5), 0);
        due("goes 1, stays 0", x.told(1, 10), 5);
        due("sees 1", x.told(0, 8), 255);
        rule(x, "goes 0;stays 1;sees 0;");
        due("another", x.told(1, 10), 2);
        due("TEXT 0 can be forced again", x.force(0), 1);
        due("goes 1, stays 0", x.told(1, 10), 5);
        due("sees 1", x.told(0, 8), 255);
    }

    // ---- Promise 6

    @Holds("A byte (0 .. 255) comes behind THE TAPE: how many it has.")
    static void promise6_howManyItHas() {
        DukeIsLost x = new DukeIsLost();
        due("byte 0", x.feed(0), 1);
        due("byte 255", x.feed(255), 2);
        due("count", x.count(4), 2);
        for (int i = 3; i <= 160; i++) {
            due("feed", x.feed(i), i);
        }
        due("count", x.count(4), 160);
        // It comes behind: the first byte is the first.
        DukeIsLost y = new DukeIsLost();
        y.feed(' ');
        y.feed('$');
        due("the second is the fault", y.text(), -101);
    }

    @Holds("BAD; FULL.")
    static void promise6_bad() {
        for (int letter : new int[] {256, -1, -256, MIN, MAX}) {
            refused("feed(" + letter + ")", BAD, x -> x.feed(letter));
            refused("feed(" + letter + "), FULL", BAD, Bench::full, x -> x.feed(letter));
        }
    }

    @Holds("FULL.")
    static void promise6_fullBehind160() {
        refused("feed", FULL, Bench::full, x -> x.feed(0));
        refused("feed", FULL, Bench::full, x -> x.feed(255));
        DukeIsLost x = new DukeIsLost();
        for (int i = 0; i < 160; i++) {
            x.feed(i < PLAIN.length() ? PLAIN.charAt(i) : ' ');
        }
        due("FULL", x.feed('$'), FULL);
        due("what is refused isn't read", x.text(), 1);
    }

    // ---- Promise 7

    @Holds("THE TAPE, which is empty then, is a TEXT: its number")
    static void promise7_itsNumberFrom1To5() {
        DukeIsLost x = duchy("01");
        for (int i = 1; i < 6; i++) {
            due("text", text(x, "goes 1;stays week=" + i + ";sees 1;"), i);
            due("THE TAPE is empty", x.count(4), 0);
            due("feed", x.feed(' '), 1);
        }
        for (int i = 1; i < 6; i++) {
            x.force(i);
            for (int week = 0; week < 7; week++) {
                x.set(0, 0, week);
                due("TEXT " + i + " in WEEK " + week, x.told(0, 10), week == i ? 3 : 2);
            }
        }
    }

    @Holds("which is empty then")
    static void promise7_theTapeIsEmptyBehindAFault() {
        DukeIsLost x = new DukeIsLost();
        due("a fault", text(x, "goes 1;stays $"), -113);
        due("THE TAPE is empty", x.count(4), 0);
        due("nothing of it is left", text(x, PLAIN), 1);
        due("nothing", x.text(), -100);
        due("TEXTS", x.count(3), 2);
    }

    @Holds("-100 less the place of its FAULT")
    static void promise7_minus100LessThePlace() {
        fault("", 0);
        fault("$", 0);
        fault(" $", 1);
        fault(" ".repeat(159) + "$", 159);
        fault(" ".repeat(160), 160);
    }

    @Holds("less the place of its FAULT")
    static void promise7_aTextWithAFaultIsNone() {
        DukeIsLost x = duchy("01");
        for (int i = 0; i < 7; i++) {
            due("a fault", text(x, "goes 0;stays 0;sees 0"), -121);
        }
        due("TEXTS", x.count(3), 1);
        due("THE RULE", x.count(5), 0);
        due("TEXT 0 is as it was", x.told(0, 10), 2);
        due("none such", x.force(1), BAD);
        due("the next has its number", text(x, PLAIN), 1);
        // However much was read of them.
        DukeIsLost y = duchy("01");
        String sum = "1" + "-1".repeat(32);
        for (int i = 0; i < 5; i++) {
            due("a long one with a fault", text(y, "goes " + sum + ";stays"), -100 - 76);
        }
        rule(y, "goes 1;stays 1-1;sees 1;");
        due("the next is read whole", y.told(0, 10), 2);
    }

    @Holds("FULL: no TEXT more has room (THE TAPE stays).")
    static void promise7_fullBehindSixTexts() {
        refused("text", FULL, Bench::full, x -> x.text());
        DukeIsLost x = new DukeIsLost();
        for (int i = 1; i < 6; i++) {
            text(x, PLAIN);
        }
        due("a seventh", text(x, PLAIN), FULL);
        due("THE TAPE stays", x.count(4), PLAIN.length());
        due("again", x.text(), FULL);
        due("THE TAPE goes on", x.feed(' '), PLAIN.length() + 1);
        due("TEXTS", x.count(3), 6);
    }

    // ---- Promise 8

    @Holds("A TEXT is THE RULE: which was.")
    static void promise8_whichWas() {
        DukeIsLost x = duchy("01");
        for (int i = 1; i < 6; i++) {
            due("text", text(x, i % 2 == 0 ? PLAIN : "goes 0;stays 0;sees 0;"), i);
            due("THE RULE is as it was", x.count(5), 0);
        }
        due("5", x.force(5), 0);
        due("TEXT 5", x.told(0, 10), 1);
        due("4", x.force(4), 5);
        due("TEXT 4", x.told(0, 10), 2);
        due("the same", x.force(4), 4);
        due("0", x.force(0), 4);
        due("THE RULE", x.count(5), 0);
    }

    @Holds("BAD.")
    static void promise8_bad() {
        for (int text : new int[] {-1, 2, 5, 6, MIN, MAX}) {
            refused("force(" + text + ")", BAD, x -> x.force(text));
        }
        refused("force(6) of six", BAD, Bench::full, x -> x.force(6));
        due("force(1), no TEXT read", new DukeIsLost().force(1), BAD);
    }
}
