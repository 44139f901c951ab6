// Each promise of the document: ordinary inputs, the edges that it names, wrong inputs.
public final class PromiseTests extends Bench {
    private static void promise1() {
        DukeIsLost x = new DukeIsLost();
        due("count(0)", x.count(0), 0);
        due("count(1)", x.count(1), 0);
        due("count(2)", x.count(2), 8);
        due("count(3)", x.count(3), 1);
        due("count(4)", x.count(4), 0);
        due("count(5)", x.count(5), 0);
        due("WEEK", x.told(0, 0), 0);
        due("POSE", x.told(0, 1), 0);
        due("DUKE", x.told(0, 2), 0);
        due("THOUGHT", x.told(0, 3), 255);
        for (int p = 0; p < 8; p++) {
            due("BESIDE", x.told(p, 9), 0);
            due("who could do neither stays", x.told(p, 10), 1 << p);
        }
        for (int s = 0; s < 4; s++) {
            due("all SHEETS are missing", x.cell(s, 0, 0), NOTHING);
        }
        due("no IMAGE", x.back(), STATE);
        due("NONE", DukeIsLost.NONE, -1);
        due("BAD", DukeIsLost.BAD, -2);
        due("STATE", DukeIsLost.STATE, -3);
        due("FULL", DukeIsLost.FULL, -4);
        due("NO", DukeIsLost.NO, -4611686018427387904L);
    }

    private static void promise2() {
        DukeIsLost x = new DukeIsLost();
        x.finder(0, 3, 6);
        int[] first = {0, 0, 0, 255, 3, 6};
        int[] most = {999, 9, 7, 255, 9, 7};
        for (int what = 0; what < 6; what++) {
            int of = what < 4 ? MIN + what : 0;
            due("set at first " + what, x.set(what, of, most[what]), first[what]);
            due("set then " + what, x.set(what, of, 0), most[what]);
            due("above " + what, x.set(what, of, most[what] + 1), BAD);
            due("below " + what, x.set(what, of, -1), BAD);
            due("far above " + what, x.set(what, of, MAX), BAD);
            due("a refusal changes nothing " + what, x.told(0, what), 0);
        }
        due("what 6", x.set(6, 0, 0), BAD);
        due("what -1", x.set(-1, 0, 0), BAD);
        due("what MAX", x.set(MAX, 0, 0), BAD);
        due("what MIN", x.set(MIN, 0, 0), BAD);
        due("no FINDER 1", x.set(4, 1, 0), BAD);
        due("no FINDER -1", x.set(5, -1, 0), BAD);
        due("no FINDER MAX", x.set(5, MAX, 0), BAD);
        x.set(2, 0, 5);
        due("THOUGHT is not the DUKE's", x.told(0, 3), 0);
    }

    private static void promise3() {
        DukeIsLost x = new DukeIsLost();
        due("a LANE", x.lane(0, 7, 1), 0);
        due("once more", x.lane(7, 0, 1), 1);
        due("BESIDE 0", x.told(0, 9), 128);
        due("BESIDE 7", x.told(7, 9), 1);
        due("count", x.count(1), 1);
        due("away", x.lane(7, 0, 0), 1);
        due("away again", x.lane(0, 7, 0), 0);
        due("BESIDE 0", x.told(0, 9), 0);
        due("BESIDE 7", x.told(7, 9), 0);
        int[][] bad = {{8, 0, 1}, {-1, 0, 1}, {0, 8, 1}, {0, -1, 1}, {3, 3, 1}, {3, 3, 0}, {0, 1, 2}, {0, 1, -1},
            {MIN, 0, 1}, {0, MAX, 1}};
        for (int[] b : bad) {
            due("bad lane", x.lane(b[0], b[1], b[2]), BAD);
        }
        due("no LANES", x.count(1), 0);
        for (int a = 0; a < 8; a++) {
            for (int b = a + 1; b < 8; b++) {
                x.lane(b, a, 1);
            }
        }
        due("all LANES", x.count(1), 28);
    }

    private static void promise4() {
        DukeIsLost x = new DukeIsLost();
        int[][] bad = {{6, 0, 0}, {-1, 0, 0}, {0, 10, 0}, {0, -1, 0}, {0, 0, 8}, {0, 0, -1}, {MAX, MAX, MAX}};
        for (int[] b : bad) {
            due("bad finder", x.finder(b[0], b[1], b[2]), BAD);
        }
        due("none came", x.count(0), 0);
        for (int i = 0; i < 5; i++) {
            due("finder " + i, x.finder(5 - i, 9 - i, 7 - i), i);
            due("KIND", x.told(i, 6), 5 - i);
            due("NUMBER", x.told(i, 4), 9 - i);
            due("AT", x.told(i, 5), 7 - i);
            due("FOUND", x.told(i, 7), 0);
        }
        due("BAD ahead of FULL", x.finder(6, 0, 0), BAD);
        due("FULL", x.finder(0, 0, 0), FULL);
        due("five", x.count(0), 5);
    }

    private static void promise5() {
        DukeIsLost x = duchy("01 12 23");
        x.finder(0, 0, 0);
        x.finder(1, 9, 1);
        x.finder(2, 0, 2);
        x.finder(3, 4, 3);
        x.finder(4, 0, 4);
        due("EYES of a FINDER", x.told(0, 8), 255);
        due("EYES of a FARMER", x.told(1, 8), 255);
        due("EYES of a MINTER", x.told(2, 8), 85);
        due("EYES of a DOG", x.told(3, 8), 255);
        due("EYES of a CLERK in WEEK 0", x.told(4, 8), 255);
        x.set(0, 0, 7);
        due("EYES of a CLERK in WEEK 7", x.told(4, 8), 85);
        x.set(0, 0, 8);
        due("EYES of a CLERK in WEEK 8", x.told(4, 8), 255);
        x.set(1, 0, 4);
        due("EYES of a DOG, POSE its NUMBER", x.told(3, 8), 0);
        rule(x, "goes to=2;stays place=3;sees place=number;");
        due("sees, FINDER", x.told(0, 8), 1);
        due("sees, FARMER 9: place 9 modulo 8", x.told(1, 8), 2);
        x.set(4, 1, 5);
        due("sees, FARMER 5", x.told(1, 8), 32);
        x.set(4, 2, 6);
        due("sees, MINTER 6", x.told(2, 8), 64);
        x.set(4, 2, 5);
        due("sees, MINTER 5", x.told(2, 8), 0);
        due("BESIDE 1", x.told(1, 9), 5);
        due("behind 1", x.told(1, 10), 4);
        due("behind 2, which has no way", x.told(2, 10), 4);
        due("behind 3", x.told(3, 10), 12);
        due("what 11", x.told(0, 11), BAD);
        due("what -1", x.told(0, -1), BAD);
        for (int what = 4; what < 9; what++) {
            due("no such FINDER " + what, x.told(5, what), BAD);
            due("no such FINDER " + what, x.told(-1, what), BAD);
        }
        for (int what = 9; what < 11; what++) {
            due("no such PLACE " + what, x.told(8, what), BAD);
            due("no such PLACE " + what, x.told(MIN, what), BAD);
        }
        for (int what = 0; what < 4; what++) {
            due("of does not matter", x.told(MIN, what), x.told(0, what));
        }
        DukeIsLost y = new DukeIsLost();
        y.finder(5, 0, 0);
        due("EYES of an HONEST", y.told(0, 8), 0);
    }

    private static void promise6() {
        DukeIsLost x = new DukeIsLost();
        due("256", x.feed(256), BAD);
        due("-1", x.feed(-1), BAD);
        for (int i = 1; i <= 160; i++) {
            due("feed", x.feed(i % 256), i);
        }
        due("FULL", x.feed(0), FULL);
        due("BAD ahead of FULL", x.feed(256), BAD);
        due("count", x.count(4), 160);
    }

    private static void fault(String text, int place) {
        DukeIsLost x = new DukeIsLost();
        due("fault of " + text, text(x, text), -100 - place);
        due("THE TAPE is empty then", x.count(4), 0);
        due("no TEXT more", x.count(3), 1);
    }

    private static void promise7() {
        DukeIsLost x = new DukeIsLost();
        due("a TEXT", text(x, "goes 1;stays 0;sees 1;"), 1);
        due("THE TAPE is empty", x.count(4), 0);
        due("with blanks", text(x, " \ngoes 1\n;\nstays 0 ; sees 1 ; \n"), 2);
        due("without any", text(x, "goes(1);stays(0);sees(1);"), 3);
        due("all signs", text(x, "goes not 1<2 and 3=4 or -5*(6-7)+8;stays 9999;sees place+to+week+number+ways+pose;"), 4);
        due("a number is ended by a word", text(x, "goes 1and 2or 3;stays1;sees0;"), 5);
        due("TEXTS", x.count(3), 6);
        x.feed('g');
        due("FULL", x.text(), FULL);
        due("THE TAPE stays", x.count(4), 1);
        faults();
        depths();
        values();
    }

    private static void faults() {
        fault("", 0);
        fault("  ", 2);
        fault("stays 1;", 0);
        fault(" 1", 1);
        fault("goes", 4);
        fault("goes ;", 5);
        fault("goes 1", 6);
        fault("goes 1 ", 7);
        fault("goes 1 1;", 7);
        fault("goes 1;sees 1;", 7);
        fault("goes 1;stays 1;sees 1", 21);
        fault("goes 1;stays 1;sees 1;;", 22);
        fault("goes 1;stays 1;sees 1; x", 23);
        fault("goes 1;stays 1;sees 1;\t", 22);
        fault("goes1$;", 5);
        fault("Goes 1;", 0);
        fault("goes plac;", 5);
        fault("goes places;", 5);
        fault("goes numbers;", 5);
        fault("goes goes;", 5);
        fault("goesz 1;", 0);
        fault("goes toz;", 5);
        fault("goes orand;", 5);
        fault("goes 12345;", 5);
        fault("goes 00001;", 5);
        fault("goes 1+12345;", 7);
        fault("goes 1 2 $;", 7);
        fault("goes 1);", 6);
        fault("goes (1;", 7);
        fault("goes ();", 6);
        fault("goes 1<2<3;", 8);
        fault("goes 1=2<3;", 8);
        fault("goes 1<not 2;", 7);
        fault("goes 1+not 2;", 7);
        fault("goes 1*not 2;", 7);
        fault("goes -not 2;", 6);
        fault("goes 1 not 2;", 7);
        fault("goes +1;", 5);
        fault("goes *1;", 5);
        fault("goes 1 or;", 9);
        fault("goes or 1;", 5);
        fault("goes 1 and and 1;", 11);
        fault("goes 1++1;", 7);
        fault("goes 1(2);", 6);
        fault("goes 1 place;", 7);
        fault("goes 1/2;", 6);
        fault("goes 1>2;", 6);
        fault("goes 1;;", 7);
        fault("goes 1\r;", 6);
        fault("goes " + (char) 233 + ";", 5);
        fault("goes " + (char) 0 + ";", 5);
        fault("goes " + (char) 255 + ";", 5);
    }

    private static void depths() {
        DukeIsLost x = new DukeIsLost();
        due("five brackets", text(x, "goes (((((1)))));stays -----1;sees not not not not not 1;"), 1);
        due("opened again", text(x, "goes not 1 and not 1 and not 1 and not 1 and not 1 and not 1;stays 1;sees 1;"), 2);
        due("minus again", text(x, "goes -1*-1*-1*-1*-1*-1*-1+-1;stays (1)+(1)+(1)+(1)+(1)+(1);sees 1;"), 3);
        due("mixed, five", text(x, "goes not(-(-1));stays not 1 or (((((1)))));sees --(-(1));"), 4);
        fault("goes ((((((1))))));", 10);
        fault("goes ------1;", 10);
        fault("goes not not not not not not 1;", 25);
        fault("goes not ((((-1))));", 13);
        fault("goes not 1+(((((1)))));", 15);
        fault("goes not 1<(((((1)))));", 15);
        fault("goes -((((-1))));", 10);
        fault("goes -((((not 1))));", 10);
        // One that was closed counts no longer, and makes no room for more.
        fault("goes (1)+((((((1))))));", 14);
        fault("goes -1+------1;", 13);
        fault("goes not 1 or ((((((1))))));", 19);
        DukeIsLost y = new DukeIsLost();
        due("open at its fault", text(y, "goes not (((((1"), -113);
        due("not open later", text(y, "goes (((((1)))));stays 1;sees 1;"), 1);
        String sum = "1" + "+1".repeat(60);
        for (int i = 0; i < 2; i++) {
            due("a long one with a fault", text(y, "goes " + sum + ";stays 1;sees 1"), -100 - 141);
        }
        due("a long one", text(y, "goes " + sum + ";stays 1;sees 1;"), 2);
        y.force(2);
        y.lane(0, 1, 1);
        due("is read whole", y.told(0, 10), 3);
        // An open one of an earlier part is no longer open.
        due("parts", text(x, "goes (((((1)))));stays (((((1)))));sees (((((1)))));"), 5);
    }

    /** The value of an E, by told(0, 10): 1 if it isn't 0. */
    private static void value(String e, int want) {
        DukeIsLost x = duchy("01 02");
        rule(x, "goes to=1;stays(" + e + ")=(" + want + ");sees 0;");
        due(e, x.told(0, 10), 3);
    }

    private static void values() {
        value("2+3*4", 14);
        value("(2+3)*4", 20);
        value("10-3-2", 5);
        value("-3*-3", 9);
        value("--3", 3);
        value("0-3", -3);
        value("2<3", 1);
        value("3<3", 0);
        value("-1<0", 1);
        value("3=3", 1);
        value("7 or 0", 1);
        value("0 or 0", 0);
        value("7 and 2", 1);
        value("7 and 0", 0);
        value("not 7", 0);
        value("not 0", 1);
        value("not not 7", 1);
        value("not 2<1", 1);
        value("not 1=2 and 0", 0);
        value("1 or 1 and 0", 1);
        value("0 and 0 or 1", 1);
        value("1+1<1+2", 1);
        value("(1<2)+(1<2)", 2);
        value("1+2=3 and 2*2=4", 1);
        value("9999", 9999);
        value("0007", 7);
        // 32 bits wrap.
        value("4096*4096*256+7", 7);
        value("4096*4096*128<0", 1);
        value("0<4096*4096*128-1", 1);
        value("-(4096*4096*128)=4096*4096*128", 1);
        value("5", 5);
        value("place", 0);
        value("ways", 2);
        value("to", 0);
        value("number", 0);
        // Words of the names, in goes, stays and sees.
        DukeIsLost x = duchy("01 12 23");
        x.set(0, 0, 998);
        x.set(1, 0, 8);
        rule(x, "goes week=998 and pose=8 and number=0 and to=place+1;stays ways=1 and to=0;sees ways=2 and to=0 and number=7;");
        due("0", x.told(0, 10), 3);
        due("1", x.told(1, 10), 4);
        due("2", x.told(2, 10), 8);
        due("3", x.told(3, 10), 8);
        x.finder(0, 7, 0);
        x.finder(0, 6, 0);
        due("sees", x.told(0, 8), 6);
        due("sees", x.told(1, 8), 0);
    }

    private static void promise8() {
        DukeIsLost x = duchy("01");
        due("TEXT 1", text(x, "goes 0;stays 0;sees 0;"), 1);
        due("TEXT 0 is THE RULE yet", x.told(0, 10), 2);
        due("force 1", x.force(1), 0);
        due("TEXT 1", x.told(0, 10), 1);
        due("count", x.count(5), 1);
        due("force 0", x.force(0), 1);
        due("TEXT 0", x.told(0, 10), 2);
        due("force 2", x.force(2), BAD);
        due("force -1", x.force(-1), BAD);
        due("force MAX", x.force(MAX), BAD);
        due("count", x.count(5), 0);
    }

    private static void promise9() {
        DukeIsLost x = duchy("01 12 23 34");
        x.finder(0, 0, 1);
        x.finder(2, 0, 3);
        due("SPREAD", x.spread(5, 0), 10);
        due("LOOKED", x.spread(31, 1), 29);
        due("both", x.spread(5, 2), 8);
        due("none", x.spread(0, 2), 0);
        due("all", x.spread(255, 0), 255);
        due("256", x.spread(256, 0), BAD);
        due("-1", x.spread(-1, 0), BAD);
        due("what 3", x.spread(0, 3), BAD);
        due("what -1", x.spread(0, -1), BAD);
        due("THOUGHT stays", x.told(0, 3), 255);
        x.finder(4, 0, 3);
        due("WEEK as it is, both times", x.spread(5, 2), 0);
        x.set(0, 0, 3);
        due("WEEK as it is, both times", x.spread(5, 2), 8);
    }

    private static void promise10() {
        DukeIsLost x = duchy("01 03 05 07");
        int[] to = {1, 3, 5, 7};
        for (int seed : new int[] {0, 1, 2, 3, 4, 5, -1, -2, MIN, MAX, 123456789}) {
            x.set(2, 0, 0);
            due("week " + seed, x.week(seed), NONE);
            due("DUKE", x.told(0, 2), to[(z(seed) >>> 9) % 4]);
        }
        due("WEEK", x.told(0, 0), 11);
        DukeIsLost y = duchy("01 12");
        y.finder(5, 0, 1);
        y.finder(0, 0, 1);
        y.finder(0, 0, 1);
        due("THOUGHT", y.set(3, 0, 7), 255);
        due("the first who SEES", y.week(3), 1);
        due("FOUND", y.told(1, 7), 1);
        due("FOUND by that one alone", y.told(2, 7), 0);
        due("FOUND by that one alone", y.told(0, 7), 0);
        due("THOUGHT is just there", y.told(0, 3), 2);
        y.set(3, 0, 7);
        due("not found", y.week(3), NONE);
        due("THOUGHT is SPREAD and LOOKED", y.told(0, 3), 5);
        y.set(0, 0, 998);
        due("to WEEK 999", y.week(3), 1);
        due("FOUND twice", y.told(1, 7), 2);
        due("STATE", y.week(3), STATE);
        due("nothing changes", y.told(0, 0), 999);
        due("nothing changes", y.told(0, 2), 1);
        // SPREAD is told as WEEK is, LOOKED as WEEK is then.
        DukeIsLost w = duchy("01 12");
        rule(w, "goes week=0;stays 0;sees week=1;");
        w.finder(0, 0, 1);
        due("both", w.week(0), 0);
        due("DUKE", w.told(0, 2), 1);
        due("later he stays, unseen", w.week(0), NONE);
        due("DUKE", w.told(0, 2), 1);
        due("THOUGHT", w.told(0, 3), 2);
    }

    private static void promise11() {
        DukeIsLost x = duchy("01 12");
        x.finder(0, 0, 0);
        due("goes", x.go(0, 1), 0);
        due("goes on", x.go(0, 2), 1);
        due("it isn't BESIDE", x.go(0, 0), STATE);
        due("where one is", x.go(0, 2), STATE);
        due("AT", x.told(0, 5), 2);
        due("no such FINDER", x.go(1, 1), BAD);
        due("no such FINDER", x.go(-1, 1), BAD);
        due("no such PLACE", x.go(0, 8), BAD);
        due("no such PLACE", x.go(0, -1), BAD);
        rule(x, "goes 0;stays 1;sees 1;");
        due("a FINDER goes by no TEXT", x.go(0, 1), 2);
    }

    private static void promise12() {
        DukeIsLost x = duchy("01 12 23 34");
        x.finder(0, 0, 1);
        x.finder(0, 0, 3);
        x.set(3, 0, 31);
        due("THOUGHT", x.run(1, 0), 21);
        due("THOUGHT", x.run(2, 0), 0);
        due("none first", x.run(1, 1), NONE);
        due("none first", x.run(40, 1), 1);
        due("together", x.run(0, 2), 0);
        due("together", x.run(40, 2), 3);
        due("n 0", x.run(0, 0), 31);
        due("n 41", x.run(41, 0), BAD);
        due("n -1", x.run(-1, 0), BAD);
        due("what 3", x.run(0, 3), BAD);
        due("what -1", x.run(0, -1), BAD);
        due("in thought", x.told(0, 0), 0);
        due("in thought", x.told(0, 3), 31);
        x.set(3, 0, 0);
        due("none at once, n 0", x.run(0, 1), NONE);
        due("none at once", x.run(1, 1), 0);
        // WEEK passes 999, and what is told by it goes on.
        DukeIsLost y = duchy("01");
        y.set(0, 0, 999);
        y.set(3, 0, 1);
        rule(y, "goes week=1001;stays week<1001;sees week=1003;");
        y.finder(0, 0, 1);
        due("999 to 1001", y.run(2, 0), 1);
        due("1001 to 1002", y.run(3, 0), 2);
        due("in 1003", y.run(4, 0), 0);
        due("in which", y.run(40, 1), 3);
        due("together", y.run(40, 2), 3);
    }

    private static void promise13() {
        DukeIsLost x = duchy("01 12 23 34");
        x.finder(0, 0, 0);
        x.set(3, 0, 31);
        due("SURE on a row of 5", x.sure(0, 40, 0), 6);
        due("WAY", x.sure(0, 40, 1), 234432);
        due("n 6", x.sure(0, 6, 0), 6);
        due("n 5", x.sure(0, 5, 0), NONE);
        due("n 5", x.sure(0, 5, 1), NONE);
        due("n 0", x.sure(0, 0, 0), NONE);
        x.set(3, 0, 0);
        due("at once", x.sure(0, 0, 0), 0);
        due("at once", x.sure(0, 0, 1), 0);
        x.set(3, 0, 1);
        due("of like WAYS the first", x.sure(0, 40, 1), 2);
        due("none such", x.sure(1, 0, 0), BAD);
        due("none such", x.sure(-1, 0, 0), BAD);
        due("n", x.sure(0, 41, 0), BAD);
        due("n", x.sure(0, -1, 0), BAD);
        due("what", x.sure(0, 0, 2), BAD);
        due("what", x.sure(0, 0, -1), BAD);
        // Alone: another one who would see him does not help.
        x.finder(0, 0, 1);
        x.set(5, 0, 4);
        due("alone", x.sure(0, 40, 0), 3);
        due("WAY", x.sure(0, 40, 1), 432);
        due("the other", x.sure(1, 40, 0), 1);
        due("WAY", x.sure(1, 40, 1), 2);
        due("in thought", x.told(0, 5), 4);
        // Above 9 WEEKS there is no WAY.
        DukeIsLost y = duchy("01 12 23 34 45 56 67");
        y.finder(0, 0, 0);
        due("SURE on a row of 8", y.sure(0, 40, 0), 12);
        due("no WAY", y.sure(0, 40, 1), NONE);
        due("n 12", y.sure(0, 12, 0), 12);
        due("n 11", y.sure(0, 11, 0), NONE);
        // One who stays need not go: all texts as WEEK is now.
        DukeIsLost w = duchy("01");
        w.finder(0, 0, 0);
        w.set(3, 0, 2);
        rule(w, "goes week=0;stays week=1;sees 1;");
        due("he goes", w.sure(0, 40, 1), 1);
        w.set(0, 0, 1);
        due("he stays", w.sure(0, 40, 1), 2);
    }

    private static void promise14() {
        DukeIsLost x = duchy("01 12 23 34");
        x.finder(0, 0, 0);
        x.set(3, 0, 1);
        due("STAND", x.stand(0, 0), 0);
        due("SURE then", x.stand(0, 1), 1);
        due("FROM", x.stand(0, 2), 31);
        x.set(3, 0, 16);
        due("STAND", x.stand(0, 0), 2);
        due("SURE then", x.stand(0, 1), 1);
        due("where one stands does not change", x.told(0, 5), 0);
        x.set(3, 0, 0);
        due("none to find", x.stand(0, 0), 0);
        due("none to find", x.stand(0, 1), 0);
        due("none to find", x.stand(0, 2), 255);
        x.finder(5, 0, 0);
        x.set(3, 0, 1);
        due("an HONEST", x.stand(1, 0), NONE);
        due("an HONEST", x.stand(1, 1), NONE);
        due("an HONEST", x.stand(1, 2), 0);
        due("none such", x.stand(2, 0), BAD);
        due("none such", x.stand(-1, 0), BAD);
        due("what", x.stand(0, 3), BAD);
        due("what", x.stand(0, -1), BAD);
    }

    private static void promise15() {
        // On a ring of 3 he always slips by; on a row he doesn't.
        DukeIsLost x = duchy("01 12 02");
        x.finder(0, 0, 0);
        x.set(3, 0, 7);
        due("SURE", x.sure(0, 40, 0), NONE);
        due("SHUT", x.shut(0, 0), 1);
        due("SURE then", x.shut(0, 1), 2);
        due("the LANE stays", x.count(1), 3);
        due("the LANE stays", x.told(0, 9), 6);
        x.set(3, 0, 0);
        due("none to find", x.shut(0, 0), NONE);
        due("SURE as so", x.shut(0, 1), 0);
        x.finder(5, 0, 0);
        x.set(3, 0, 1);
        due("an HONEST", x.shut(1, 0), NONE);
        due("an HONEST", x.shut(1, 1), NONE);
        due("none such", x.shut(2, 0), BAD);
        due("none such", x.shut(-1, 0), BAD);
        due("what", x.shut(0, 2), BAD);
        due("what", x.shut(0, -1), BAD);
        DukeIsLost first = duchy("01 12 02");
        first.finder(0, 0, 0);
        first.set(3, 0, 7);
        due("SHUT as the first call", first.shut(0, 0), 1);
        DukeIsLost still = duchy("01");
        still.finder(0, 0, 0);
        still.set(3, 0, 3);
        due("SURE as so, as the first call", still.shut(0, 1), 2);
        DukeIsLost y = duchy("12 23 34");
        y.finder(0, 0, 3);
        y.set(3, 0, 4);
        due("he goes from 2 to 1 or 3", y.sure(0, 40, 0), 2);
        due("10 times the lesser, and the other", y.shut(0, 0), 12);
        due("SURE then", y.shut(0, 1), 1);
        // Without the LANE there are fewer ways, too.
        DukeIsLost w = duchy("01 12");
        w.finder(0, 0, 0);
        w.set(3, 0, 2);
        rule(w, "goes ways=1;stays ways=2;sees 1;");
        due("he stays, 1 goes there", w.sure(0, 40, 0), 1);
        due("none is less", w.shut(0, 0), NONE);
        due("as so", w.shut(0, 1), 1);
        w.lane(0, 1, 0);
        w.lane(0, 3, 1);
        w.lane(1, 3, 1);
        due("he stays at 1, two WEEKS away", w.sure(0, 40, 0), 2);
        due("without 12 or 13 he goes", w.shut(0, 0), 12);
        due("to 3", w.shut(0, 1), 1);
    }

    private static void promise16() {
        DukeIsLost x = duchy("01 12 23 34");
        x.set(3, 0, 31);
        // Behind SPREAD all of 0 .. 4; without 1: 0, 2, 3, 4, then 1, 2, 3, 4.
        due("BEST LOOK 1", x.look(1, 0), 2);
        due("left", x.look(1, 1), 4);
        due("BEST LOOK 2", x.look(2, 0), 10);
        due("left", x.look(2, 1), 2);
        due("BEST LOOK 3", x.look(3, 0), 11);
        due("left", x.look(3, 1), 2);
        due("n 0", x.look(0, 0), BAD);
        due("n 4", x.look(4, 0), BAD);
        due("what 2", x.look(1, 2), BAD);
        due("what -1", x.look(1, -1), BAD);
        x.set(3, 0, 0);
        for (int n = 1; n < 4; n++) {
            due("the least as bits", x.look(n, 0), (1 << n) - 1);
            due("none left", x.look(n, 1), 0);
        }
        due("THOUGHT stays", x.told(0, 3), 0);
        DukeIsLost y = duchy("01 02 03 04");
        y.set(3, 0, 30);
        due("all meet at 0", y.look(1, 0), 1);
        due("none left", y.look(1, 1), 0);
        y.set(3, 0, 1);
        due("he is at 1 .. 4 then", y.look(3, 0), 7);
        due("at 0 at last", y.look(3, 1), 1);
    }

    private static void promise17() {
        DukeIsLost x = duchy("01 12 23 34");
        x.finder(0, 0, 2);
        row(x, 0, 0, -1, 2, -1);
        due("at last", x.tells(0, 0), 10);
        due("now", x.tells(0, 1), 21);
        due("none first", x.tells(0, 2), NONE);
        due("POSES", x.tells(0, 3), 1023);
        due("TEXTS", x.tells(0, 4), 1);
        row(x, 1, 1, -1, 2, 2);
        due("at last", x.tells(1, 0), 0);
        due("now", x.tells(1, 1), 0);
        due("none first", x.tells(1, 2), 2);
        due("POSES", x.tells(1, 3), 0);
        due("TEXTS", x.tells(1, 4), 0);
        due("TEXT 1", text(x, "goes 0;stays 0;sees week<3;"), 1);
        due("TEXT 2", text(x, "goes 1;stays 1;sees 1<week;"), 2);
        due("TEXTS: by 1 he stays, by 2 he may", x.tells(1, 4), 4);
        row(x, 2, 2, 2, 2, -1);
        due("TEXTS: by 1 unseen in WEEK 3", x.tells(2, 4), 2);
        due("THE RULE stays", x.count(5), 0);
        row(x, 2, 2, 1);
        due("none stands there", x.tells(2, 2), 0);
        row(x, 2, 2, 8);
        due("no PLACE", x.tells(2, 2), 0);
        row(x, 2, 2, -2);
        due("no PLACE", x.tells(2, 0), 0);
        row(x, 2, 2, 256);
        due("no PLACE", x.tells(2, 2), 0);
        row(x, 2, 2);
        due("nothing told", x.tells(2, 0), 255);
        due("nothing told", x.tells(2, 1), 255);
        due("nothing told", x.tells(2, 2), NONE);
        due("nothing told", x.tells(2, 4), 7);
        x.set(3, 0, 0);
        due("THOUGHT doesn't matter", x.tells(0, 1), 21);
        x.sheet(2, 0, 30);
        due("30 are told", x.tells(2, 0), 0);
        x.sheet(2, 0, 31);
        due("31 are too many", x.tells(2, 0), BAD);
        due("SHEET 4", x.tells(4, 0), BAD);
        due("SHEET -1", x.tells(-1, 0), BAD);
        due("what 5", x.tells(0, 5), BAD);
        due("what ahead of -11", x.tells(3, 5), BAD);
        due("missing", x.tells(3, 0), NOTHING);
        DukeIsLost y = duchy("01");
        y.finder(3, 4, 0);
        y.finder(3, 5, 0);
        row(y, 0, 0, 0);
        due("POSES of two DOGS", y.tells(0, 3), 1023);
        row(y, 0, 0, -1, -1);
        due("POSES of two DOGS", y.tells(0, 3), 1023);
        y.finder(3, 4, 1);
        due("one PLACE more", y.set(3, 0, 0), 255);
        for (int p = 2; p < 8; p++) {
            y.lane(1, p, 1);
        }
        row(y, 0, 0, 0, -1, 0, -1);
        due("POSES: at 1 unseen", y.tells(0, 3), 16);
        due("POSE stays", y.told(0, 1), 0);
    }

    private static void promise18() {
        DukeIsLost x = duchy("01 12");
        x.set(0, 0, 1);
        x.set(1, 0, 3);
        x.finder(0, 3, 1);
        row(x, 0, 0, 1);
        due("KINDS at 1 in WEEK 2: FINDER, FARMER, not DOG 3", x.eyes(0, 0, 0), 3);
        due("NUMBERS", x.eyes(0, 0, 1), 1023);
        row(x, 0, 0, -1, 1, -1, 1);
        due("KINDS", x.eyes(0, 0, 0), 3);
        row(x, 0, 0, -1, -1, 1);
        due("KINDS: a CLERK in WEEK 4; another had seen him in WEEK 3", x.eyes(0, 0, 0), 16);
        rule(x, "goes 1;stays 1;sees number=5;");
        row(x, 0, 0, 1);
        due("NUMBERS", x.eyes(0, 0, 1), 32);
        due("KINDS: none", x.eyes(0, 0, 0), 0);
        x.finder(1, 1, 1);
        due("KINDS: the other one sees him", x.eyes(0, 0, 0), 63);
        due("KINDS of the other: FARMER, DOG 1", x.eyes(0, 1, 0), 10);
        due("NUMBERS of the other: 1, 5, 9", x.eyes(0, 1, 1), 2 + 32 + 512);
        due("KIND stays", x.told(1, 6), 1);
        due("NUMBER stays", x.told(1, 4), 1);
        due("SHEET", x.eyes(4, 0, 0), BAD);
        due("none such", x.eyes(0, 2, 0), BAD);
        due("what", x.eyes(0, 0, 2), BAD);
        due("missing", x.eyes(1, 0, 0), NOTHING);
        due("BAD ahead of missing", x.eyes(1, 2, 0), BAD);
        x.sheet(1, 2, 31);
        due("31 are too many", x.eyes(1, 0, 0), BAD);
        due("SHEET -1", x.eyes(-1, 0, 0), BAD);
    }

    private static void promise19() {
        DukeIsLost x = duchy("01");
        x.finder(0, 0, 1);
        due("film", x.film(0, 9, 4), 4);
        due("WEEK stays", x.told(0, 0), 0);
        due("DUKE stays", x.told(0, 2), 0);
        due("FOUND stays", x.told(0, 7), 0);
        due("1, -1, 1, -1", x.tells(0, 0), 1);
        x.sheet(1, 0, 5);
        due("bytes", x.copy(0, 0, 1, 0, 4), 4);
        due("four of them", x.copy(0, 0, 1, 0, 5), OUTSIDE);
        due("n 0", x.film(0, 9, 0), 0);
        due("no items", x.cell(0, 0, 0), OUTSIDE);
        due("n 30", x.film(0, 9, 30), 30);
        due("n 31", x.film(0, 9, 31), BAD);
        due("n -1", x.film(0, 9, -1), BAD);
        due("SHEET", x.film(4, 9, 1), BAD);
        due("SHEET", x.film(-1, 9, 1), BAD);
        x.set(0, 0, 999);
        due("WEEK may pass 999", x.film(0, 9, 30), 30);
        // By number: 2, 4, 6 are the places of each WEEK, told by a finder at each.
        DukeIsLost y = duchy("02 04 06 24 26 46");
        y.finder(0, 0, 0);
        y.finder(0, 0, 2);
        y.finder(0, 0, 4);
        y.finder(0, 0, 6);
        y.film(2, 77, 6);
        int seed = 77;
        int at = 0;
        y.sheet(3, 0, 6);
        for (int i = 0; i < 6; i++) {
            seed = z(seed);
            int left = (seed >>> 9) % 3;
            int to = 0;
            for (int p = 0; p < 8; p += 2) {
                if (p != at && left-- == 0) {
                    to = p;
                }
            }
            at = to;
            y.cell(3, i, at);
            due("drawn", y.drawn(77, i + 1), at);
        }
        for (int what = 0; what < 3; what++) {
            due("film is as drawn", y.tells(2, what), y.tells(3, what));
        }
    }

    private static void promise20() {
        DukeIsLost x = duchy("01 12 23 34 45 56 67 07 04");
        due("n 0", x.drawn(5, 0), 0);
        due("n 41", x.drawn(5, 41), BAD);
        due("n -1", x.drawn(5, -1), BAD);
        int z = 5;
        for (int n = 1; n <= 40; n++) {
            // As truly: a WEEK by the z of the last one.
            x.week(z);
            z = z(z);
            int at = x.told(0, 2);
            x.set(2, 0, 0);
            x.set(0, 0, 0);
            due("drawn " + n, x.drawn(5, n), at);
            x.set(2, 0, at);
        }
        x.set(0, 0, 999);
        due("WEEK may pass 999", x.drawn(5, 0), x.told(0, 2));
    }

    private static void promise21() {
        DukeIsLost x = duchy("01");
        due("above: nobody looks", x.chance(1, 20, 0), 0);
        due("below: lowest terms", x.chance(1, 20, 1), 1);
        x.finder(0, 0, 1);
        due("always", x.chance(MAX, 20, 0), 1);
        due("always", x.chance(MAX, 20, 1), 1);
        due("m 0", x.chance(0, 0, 0), DukeIsLost.NO);
        due("m 21", x.chance(0, 21, 0), DukeIsLost.NO);
        due("part 2", x.chance(0, 1, 2), DukeIsLost.NO);
        due("part -1", x.chance(0, 1, -1), DukeIsLost.NO);
        // He goes to a dead end once: the first WEEK tells all.
        DukeIsLost y = duchy("01 02 03");
        rule(y, "goes place=0;stays 0;sees 1;");
        y.finder(0, 0, 2);
        for (int seed : new int[] {0, 100, -7, MAX - 3}) {
            for (int m = 1; m <= 20; m++) {
                int above = 0;
                for (int i = 0; i < m; i++) {
                    if ((z(seed + i) >>> 9) % 3 == 1) {
                        above++;
                    }
                }
                int d = m;
                while (above % d != 0 || m % d != 0) {
                    d--;
                }
                due("above", y.chance(seed, m, 0), above / d);
                due("below", y.chance(seed, m, 1), m / d);
            }
        }
        // Seen in the 8th WEEK, not behind it.
        DukeIsLost w = duchy("01");
        rule(w, "goes 1;stays 0;sees week=8;");
        w.finder(0, 0, 0);
        due("in WEEK 8", w.chance(3, 1, 0), 1);
        DukeIsLost v = duchy("01");
        rule(v, "goes 1;stays 0;sees week=9 or week=0;");
        v.finder(0, 0, 0);
        v.finder(0, 0, 1);
        due("in WEEK 9", v.chance(3, 1, 0), 0);
    }

    private static void promise22and23() {
        DukeIsLost x = duchy("01 12");
        due("none yet", x.back(), STATE);
        x.finder(0, 1, 0);
        x.finder(3, 2, 1);
        due("TEXT 1", text(x, "goes 1;stays 1;sees 1;"), 1);
        due("image", x.image(), 2);
        x.lane(3, 4, 1);
        x.lane(0, 1, 0);
        x.set(0, 0, 50);
        x.set(1, 0, 5);
        x.set(2, 0, 5);
        x.set(3, 0, 5);
        x.set(4, 0, 5);
        x.set(5, 1, 5);
        x.finder(5, 5, 5);
        x.force(1);
        x.feed('g');
        x.sheet(0, 0, 1);
        x.set(2, 0, 5);
        due("found", x.week(1), 1);
        due("back", x.back(), 2);
        due("FINDERS that came since go", x.count(0), 2);
        due("FINDERS that came since go", x.told(2, 4), BAD);
        due("LANES", x.told(3, 9), 0);
        due("LANES", x.told(0, 9), 2);
        due("LANES", x.count(1), 2);
        due("WEEK", x.told(0, 0), 0);
        due("POSE", x.told(0, 1), 0);
        due("DUKE", x.told(0, 2), 0);
        due("THOUGHT", x.told(0, 3), 255);
        due("NUMBER", x.told(0, 4), 1);
        due("AT", x.told(1, 5), 1);
        due("FOUND", x.told(1, 7), 0);
        due("KIND", x.told(1, 6), 3);
        due("THE RULE", x.count(5), 0);
        due("TEXTS stay", x.count(3), 2);
        due("THE TAPE stays", x.count(4), 1);
        due("SHEETS stay", x.cell(0, 0, 0), 1);
        due("the place of one that went is free", x.finder(4, 7, 7), 2);
        due("KIND", x.told(2, 6), 4);
        due("FOUND", x.told(2, 7), 0);
        due("back again", x.back(), 2);
        x.set(0, 0, 7);
        due("a later image", x.image(), 2);
        x.set(0, 0, 8);
        due("back", x.back(), 2);
        due("WEEK", x.told(0, 0), 7);
    }

    private static void promise24() {
        DukeIsLost x = duchy("01 12 23");
        x.finder(0, 0, 0);
        x.finder(0, 0, 0);
        x.set(3, 0, 0x55);
        text(x, "goes 1;stays 1;sees 1;");
        text(x, "goes 1;stays 1;sees 0;");
        x.feed(1);
        x.force(2);
        int[] want = {2, 3, 4, 3, 1, 2};
        for (int what = 0; what < 6; what++) {
            due("count " + what, x.count(what), want[what]);
        }
        due("count 6", x.count(6), BAD);
        due("count -1", x.count(-1), BAD);
    }

    private static void promise25() {
        DukeIsLost x = new DukeIsLost();
        for (int sort = 0; sort < 3; sort++) {
            due("sheet", x.sheet(sort, sort, 40), 1);
            due("the last item", x.cell(sort, 39, 1), 1);
            due("none more", x.cell(sort, 40, 1), OUTSIDE);
        }
        due("n 0", x.sheet(0, 0, 0), 1);
        due("no item", x.cell(0, 0, 0), OUTSIDE);
        due("missing", x.sheet(0, -1, MIN), 1);
        due("missing", x.cell(0, 0, 0), NOTHING);
        due("missing", x.sheet(0, -1, MAX), 1);
        due("SHEET 4", x.sheet(4, 0, 0), BAD);
        due("SHEET -1", x.sheet(-1, -1, 0), BAD);
        due("sort 3", x.sheet(0, 3, 0), BAD);
        due("sort -2", x.sheet(0, -2, 0), BAD);
        due("n 41", x.sheet(1, 0, 41), BAD);
        due("n -1", x.sheet(1, 0, -1), SMALL);
        due("n MIN", x.sheet(1, 0, MIN), SMALL);
        due("sort ahead of n", x.sheet(1, 3, -1), BAD);
        due("a refusal changes nothing", x.cell(1, 39, 0), 1);
        // All 0 again, though something stood there: a FINDER of KIND, NUMBER, PLACE 0.
        row(x, 2, 2, 9, 9, 9);
        x.sheet(2, 2, 3);
        due("all 0", x.finders(2, 2, 0, 1), 1);
    }

    private static void promise26() {
        DukeIsLost x = new DukeIsLost();
        x.sheet(0, 0, 3);
        x.sheet(1, 1, 3);
        x.sheet(2, 2, 3);
        due("SHEET 4", x.cell(4, 0, 0), BAD);
        due("SHEET -1", x.cell(-1, 0, 0), BAD);
        due("missing", x.cell(3, -1, 0), NOTHING);
        due("-12", x.cell(0, 3, 0), OUTSIDE);
        due("-12", x.cell(0, -1, 0), OUTSIDE);
        due("-12", x.cell(0, MAX, 0), OUTSIDE);
        // Of bytes 256 is 0, of shorts 65536; ints keep them.
        for (int sort = 0; sort < 3; sort++) {
            int turn = sort == 0 ? 256 : 65536;
            due("cell", x.cell(sort, 0, turn + 2), 1);
            due("cell", x.cell(sort, 1, 7 - turn), 1);
            due("cell", x.cell(sort, 2, turn * 3 + sort), 1);
        }
        due("bytes", x.finders(0, 0, 0, 1), 1);
        due("shorts", x.finders(1, 1, 0, 1), 1);
        due("ints are not cut", x.finders(2, 2, 0, 1), 0);
        due("KIND", x.told(0, 6), 2);
        due("NUMBER", x.told(1, 4), 7);
        due("AT", x.told(1, 5), 1);
        // 255 of bytes is -1: unseen.
        row(x, 3, 0, 255);
        x.set(5, 0, 2);
        due("unseen", x.tells(3, 2), NONE);
        row(x, 3, 1, 255);
        due("no PLACE", x.tells(3, 2), 0);
        row(x, 3, 1, 65535);
        due("unseen", x.tells(3, 2), NONE);
    }

    private static void promise27() {
        DukeIsLost x = new DukeIsLost();
        // A SHEET's numbers are read back as FINDERS.
        row(x, 0, 2, 1, 2, 3, 4, 5, 6);
        x.sheet(1, 2, 6);
        x.sheet(2, 1, 6);
        due("copy", x.copy(0, 0, 1, 3, 3), 3);
        due("came", x.finders(1, 2, 3, 1), 1);
        due("KIND", x.told(0, 6), 1);
        due("NUMBER", x.told(0, 4), 2);
        due("AT", x.told(0, 5), 3);
        due("onto itself, as they were", x.copy(0, 0, 0, 1, 5), 5);
        due("came", x.finders(0, 2, 1, 1), 1);
        due("KIND", x.told(1, 6), 1);
        due("NUMBER", x.told(1, 4), 2);
        due("AT", x.told(1, 5), 3);
        due("onto itself, the other way", x.copy(0, 1, 0, 0, 5), 5);
        due("came", x.finders(0, 2, 2, 1), 1);
        due("KIND", x.told(2, 6), 3);
        due("NUMBER", x.told(2, 4), 4);
        due("AT", x.told(2, 5), 5);
        due("n 0", x.copy(0, 6, 1, 6, 0), 0);
        due("n 0 outside", x.copy(0, 7, 1, 0, 0), OUTSIDE);
        due("n 0 outside", x.copy(0, 0, 1, 7, 0), OUTSIDE);
        due("n -1", x.copy(0, 0, 1, 0, -1), OUTSIDE);
        due("n MIN", x.copy(0, 0, 1, 0, MIN), OUTSIDE);
        due("i -1", x.copy(0, -1, 1, 0, 1), OUTSIDE);
        due("j -1", x.copy(0, 0, 1, -1, 1), OUTSIDE);
        due("i and n", x.copy(0, 5, 1, 0, 2), OUTSIDE);
        due("j and n", x.copy(0, 0, 1, 5, 2), OUTSIDE);
        due("i MAX", x.copy(0, MAX, 1, 0, 1), OUTSIDE);
        due("j MAX", x.copy(0, 0, 1, MAX, MAX), OUTSIDE);
        due("n MAX", x.copy(0, 1, 1, 1, MAX), OUTSIDE);
        due("unlike sorts ahead of outside", x.copy(0, -1, 2, 0, 1), OTHER);
        due("missing ahead of unlike", x.copy(0, 0, 3, 0, 1), NOTHING);
        due("missing", x.copy(3, 0, 0, 0, 1), NOTHING);
        due("missing", x.copy(3, 0, 3, 0, 0), NOTHING);
        due("SHEET", x.copy(4, 0, 3, 0, 1), BAD);
        due("other SHEET", x.copy(3, 0, 4, 0, 1), BAD);
        due("SHEET", x.copy(-1, 0, 0, 0, 1), BAD);
        due("other SHEET", x.copy(0, 0, -1, 0, 1), BAD);
    }

    private static void promise28() {
        DukeIsLost x = new DukeIsLost();
        row(x, 0, 0, 0, 1, 2, 6, 0, 0, 1, 2, 3, 5, 9);
        due("three, the second left out, the fourth outside", x.finders(0, 0, 0, 4), OUTSIDE);
        due("what stood ahead came", x.count(0), 2);
        due("KIND", x.told(1, 6), 1);
        due("three", x.finders(0, 0, 0, 3), 2);
        due("n 0", x.finders(0, 0, 0, 0), 0);
        due("n 0 reads nothing", x.finders(0, 0, MAX, 0), 0);
        due("from -1", x.finders(0, 0, -1, 1), OUTSIDE);
        due("from MIN", x.finders(0, 0, MIN, 5), OUTSIDE);
        due("from MAX", x.finders(0, 0, MAX, 5), OUTSIDE);
        due("from the end", x.finders(0, 0, 11, 1), OUTSIDE);
        due("from 8", x.finders(0, 0, 8, 1), 0);
        due("from 9", x.finders(0, 0, 9, 1), OUTSIDE);
        due("one more has room", x.finders(0, 0, 0, 3), 1);
        due("FULL ones are left out", x.finders(0, 0, 0, 3), 0);
        due("FULL, yet outside", x.finders(0, 0, 0, 5), OUTSIDE);
        due("five", x.count(0), 5);
        due("SHEET", x.finders(4, 0, 0, 0), BAD);
        due("SHEET", x.finders(-1, 0, 0, 0), BAD);
        due("sort 3", x.finders(0, 3, 0, 0), BAD);
        due("sort -1", x.finders(1, -1, 0, 0), BAD);
        due("n 6", x.finders(0, 0, 0, 6), BAD);
        due("n -1", x.finders(0, 0, 0, -1), BAD);
        due("another sort", x.finders(0, 1, MIN, 0), OTHER);
        due("missing is of any sort", x.finders(1, 2, MIN, 0), NOTHING);
    }

    private static void promise29() {
        DukeIsLost x = new DukeIsLost();
        // Rows: KIND; columns: taken for.
        String[] under = {"0", "0 1", "0 2", "0 1 3", "0 2 4", "0 5"};
        for (int start = 0; start < 6; start += 5) {
            x = new DukeIsLost();
            for (int kind = start; kind < Math.min(6, start + 5); kind++) {
                int one = x.finder(kind, 9 - kind, 0);
                for (int k = 0; k < 6; k++) {
                    boolean is = under[kind].indexOf((char) ('0' + k)) >= 0;
                    due("KIND " + kind + " taken for " + k, x.taken(one, k), is ? 9 - kind : OTHER);
                }
            }
        }
        due("k 6", x.taken(0, 6), BAD);
        due("k -1", x.taken(0, -1), BAD);
        due("BAD ahead of -11", x.taken(9, 6), BAD);
        due("no such FINDER", x.taken(1, 0), NOTHING);
        due("no such FINDER", x.taken(-1, 0), NOTHING);
    }

    public static void main(String[] args) {
        begin("promise 1"); promise1();
        begin("promise 2"); promise2();
        begin("promise 3"); promise3();
        begin("promise 4"); promise4();
        begin("promise 5"); promise5();
        begin("promise 6"); promise6();
        begin("promise 7"); promise7();
        begin("promise 8"); promise8();
        begin("promise 9"); promise9();
        begin("promise 10"); promise10();
        begin("promise 11"); promise11();
        begin("promise 12"); promise12();
        begin("promise 13"); promise13();
        begin("promise 14"); promise14();
        begin("promise 15"); promise15();
        begin("promise 16"); promise16();
        begin("promise 17"); promise17();
        begin("promise 18"); promise18();
        begin("promise 19"); promise19();
        begin("promise 20"); promise20();
        begin("promise 21"); promise21();
        begin("promises 22, 23"); promise22and23();
        begin("promise 24"); promise24();
        begin("promise 25"); promise25();
        begin("promise 26"); promise26();
        begin("promise 27"); promise27();
        begin("promise 28"); promise28();
        begin("promise 29"); promise29();
        end("29 promises");
    }
}
