// The sentences on what is sure: of 'Terms' SURE, WAY, STAND, FROM, SHUT, BEST LOOK, EYES; promises 13 to 16.
public final class SureSentences extends Bench {
    public static void main(String[] args) {
        run(SureSentences.class);
    }

    private static final String FIVE = "01 12 23 34";
    private static final String SEVEN = "01 12 23 34 45 56";

    /** Places 0 .. 4 in a row, he at any of them; one who sees all stands at a place. */
    private static DukeIsLost five(int at) {
        DukeIsLost x = duchy(FIVE);
        x.set(3, 0, 31);
        x.finder(0, 0, at);
        return x;
    }

    /**
     * One is sure from 2, 3, 6 in 40 weeks, from 4, 5 in 41, from 0, 7 in 42, from 1 in 43.
     * The fewest weeks were told by a search without a bound, apart from the class.
     */
    private static DukeIsLost slow(String more, int at) {
        DukeIsLost x = duchy("01 05 23 26 34 45 47 56 " + more);
        rule(x, "goes to<3 or place<to;stays ways<2;sees 1;");
        x.finder(0, 0, at);
        return x;
    }

    // ---- Terms: SURE

    @Holds("SURE (one, n 0 .. 40)")
    static void terms_sureInUpTo40Weeks() {
        int[] fewest = {42, 43, 40, 40, 41, 41, 40, 42};
        for (int at = 0; at < 8; at++) {
            DukeIsLost x = slow("", at);
            due("from " + at, x.sure(0, 40, 0), fewest[at] <= 40 ? fewest[at] : NONE);
            due("n 39, from " + at, x.sure(0, 39, 0), NONE);
            due("n 41, from " + at, x.sure(0, 41, 0), BAD);
            due("n -1, from " + at, x.sure(0, -1, 0), BAD);
        }
    }

    @Holds("the fewest WEEKS (0 .. n) in which one alone surely finds him, wherever in THOUGHT he is")
    static void terms_sureInNWeeksOrFewer() {
        DukeIsLost x = five(0);
        for (int n = 0; n <= 40; n++) {
            due("n " + n, x.sure(0, n, 0), n < 6 ? NONE : 6);
        }
        x.set(3, 0, 2);
        due("he goes from 1 to 0 or 2, and is caught at the end", x.sure(0, 40, 1), 1234);
        x.set(3, 0, 1);
        due("he goes from 0 to 1", x.sure(0, 40, 0), 1);
        due("n 1", x.sure(0, 1, 0), 1);
        due("n 0", x.sure(0, 0, 0), NONE);
    }

    @Holds("one alone surely finds him")
    static void terms_sureAloneWithoutTheOthers() {
        DukeIsLost x = five(0);
        for (int p = 1; p < 5; p++) {
            x.finder(0, 0, p);
        }
        due("the others don't help", x.sure(0, 40, 0), 6);
        DukeIsLost y = new DukeIsLost();
        y.finder(5, 0, 0);
        y.finder(0, 0, 0);
        y.set(3, 0, 1);
        due("an HONEST finds nobody", y.sure(0, 40, 0), NONE);
        due("the other does", y.sure(1, 40, 0), 1);
    }

    @Holds("WEEK by WEEK he goes, then one goes to a PLACE BESIDE, or stays, and LOOKS, alone")
    static void terms_sureOneGoesOrStaysBehindHim() {
        DukeIsLost x = new DukeIsLost();
        x.finder(0, 0, 0);
        x.set(3, 0, 1);
        due("he can't go, one stays", x.sure(0, 40, 1), 1);
        x.set(3, 0, 2);
        due("one can't go there", x.sure(0, 40, 0), NONE);
        x.finder(0, 0, 1);
        due("one who stands there doesn't look", x.sure(0, 40, 0), NONE);
        x.lane(0, 1, 1);
        due("he comes, one stays", x.sure(0, 40, 1), 1);
        x.set(3, 0, 1);
        due("he goes, one goes there behind him", x.sure(0, 40, 1), 2);
        // By lanes, whatever the rule says of him.
        rule(x, "goes 0;stays 1;sees 1;");
        x.set(3, 0, 2);
        due("he stays, one goes there", x.sure(0, 40, 1), 2);
        // Where one doesn't see, one may pass.
        DukeIsLost y = duchy("01 12");
        rule(y, "goes 0;stays 1;sees place=2;");
        y.finder(0, 0, 0);
        y.set(3, 0, 4);
        due("by 1 to 2", y.sure(0, 40, 1), 23);
        y.set(3, 0, 2);
        due("unseen at 1", y.sure(0, 40, 1), NONE);
    }

    @Holds("0, if THOUGHT is none.")
    static void terms_sureAtOnceIfThoughtIsNone() {
        DukeIsLost x = new DukeIsLost();
        x.finder(0, 0, 0);
        x.finder(5, 0, 0);
        x.set(3, 0, 0);
        for (int n : new int[] {0, 1, 40}) {
            due("SURE, n " + n, x.sure(0, n, 0), 0);
            due("WAY, n " + n, x.sure(0, n, 1), 0);
            due("an HONEST, n " + n, x.sure(1, n, 0), 0);
        }
    }

    @Holds("(All texts told as WEEK is now.)")
    static void terms_sureTellsTextsAsWeekIsNow() {
        DukeIsLost x = duchy("01");
        x.finder(0, 0, 0);
        x.set(3, 0, 3);
        rule(x, "goes week=0;stays 0;sees week=0;");
        due("all in WEEK 0: he goes, and is seen", x.sure(0, 40, 1), 11);
        x.set(0, 0, 1);
        due("in WEEK 1: unseen", x.sure(0, 40, 0), NONE);
        DukeIsLost y = duchy("01");
        y.finder(0, 0, 0);
        y.set(3, 0, 3);
        rule(y, "goes week=1;stays 0;sees 1;");
        due("in WEEK 0 he stays: one goes there", y.sure(0, 40, 1), 12);
        y.set(0, 0, 1);
        due("in WEEK 1 he goes: one stays", y.sure(0, 40, 1), 11);
        y.set(0, 0, 999);
        due("in WEEK 999 he stays", y.sure(0, 40, 1), 12);
    }

    @Holds("The WAY: the PLACES at which one is behind each of them, of like ones the first"
            + " (where one is least first, WEEK by WEEK)")
    static void terms_ofLikeWaysTheFirst() {
        due("from 0", five(0).sure(0, 40, 1), 234432);
        due("from 1", five(1).sure(0, 40, 1), 234432);
        due("from 2, either end will do", five(2).sure(0, 40, 1), 234432);
        due("from 3, the other end alone will do", five(3).sure(0, 40, 1), 432234);
        // Each place may be looked at in either order.
        DukeIsLost x = duchy("01 12 02");
        rule(x, "goes 0;stays 1;sees 1;");
        x.finder(0, 0, 1);
        x.set(3, 0, 7);
        due("0, 1, 2", x.sure(0, 40, 1), 123);
        x.set(3, 0, 6);
        due("1, 2", x.sure(0, 40, 1), 23);
        x.set(3, 0, 5);
        due("0, 2", x.sure(0, 40, 1), 13);
        // All eight, with a lane from each to each.
        DukeIsLost y = new DukeIsLost();
        for (int a = 0; a < 8; a++) {
            for (int b = 0; b < a; b++) {
                y.lane(a, b, 1);
            }
        }
        rule(y, "goes 0;stays 1;sees 1;");
        y.finder(0, 0, 7);
        due("0 .. 7", y.sure(0, 40, 1), 12345678);
    }

    @Holds("the fewest WEEKS (0 .. n) in which")
    static void terms_sureOfEightWhoStay() {
        // Seven ends around 0: one looks at each, and passes 0 between.
        DukeIsLost x = duchy("01 02 03 04 05 06 07");
        rule(x, "goes 0;stays 1;sees 1;");
        x.finder(0, 0, 0);
        due("SURE", x.sure(0, 40, 0), 13);
        due("n 13", x.sure(0, 13, 0), 13);
        due("n 12", x.sure(0, 12, 0), NONE);
        x.set(3, 0, 254 - 128);
        due("six ends", x.sure(0, 40, 0), 11);
        x.set(3, 0, 2 + 4 + 8 + 16);
        due("four ends", x.sure(0, 40, 1), 2131415);
    }

    @Holds("as digits (1 more than each, the first the highest; above 9 WEEKS NONE)")
    static void terms_theWayHas9DigitsAtMost() {
        DukeIsLost x = duchy("01 12 23 34 45 26");
        x.finder(0, 0, 6);
        x.set(3, 0, 63);
        due("9 WEEKS", x.sure(0, 40, 0), 9);
        due("9 digits", x.sure(0, 40, 1), 323455432);
        due("n 9", x.sure(0, 9, 1), 323455432);
        due("n 8", x.sure(0, 8, 1), NONE);
        DukeIsLost y = duchy(SEVEN);
        y.finder(0, 0, 0);
        y.set(3, 0, 127);
        due("10 WEEKS", y.sure(0, 40, 0), 10);
        due("no WAY", y.sure(0, 40, 1), NONE);
        due("40 WEEKS", slow("", 2).sure(0, 40, 1), NONE);
        // The highest digit: 8 for 7.
        DukeIsLost w = duchy("67");
        w.finder(0, 0, 6);
        w.set(3, 0, 64);
        due("at 7", w.sure(0, 40, 1), 8);
    }

    // ---- Terms: STAND, FROM, SHUT

    @Holds("STAND (one): the PLACE from which SURE (n 40) is least; of like ones the first; NONE.")
    static void terms_standOfLikeOnesTheFirst() {
        due("in 40 from 2, 3, 6", slow("", 1).stand(0, 0), 2);
        due("in 6 from 0, 1, 2, 3, 4", five(4).stand(0, 0), 0);
        DukeIsLost x = five(0);
        x.set(3, 0, 16);
        due("he goes from 4 to 3: 2, 3, 4 are like", x.stand(0, 0), 2);
        rule(x, "goes 0;stays 1;sees 1;");
        x.set(3, 0, 128);
        due("he stays at 7: from there alone", x.stand(0, 0), 7);
        x.set(3, 0, 129);
        due("and at 0: from nowhere", x.stand(0, 0), NONE);
        x.set(3, 0, 0);
        due("none to find: from all", x.stand(0, 0), 0);
    }

    @Holds("FROM (one): PLACES (bits) from which there is one.")
    static void terms_fromWhereThereIsOne() {
        due("in 40, not in 41", slow("", 1).stand(0, 2), 4 + 8 + 64);
        due("from each of 5", five(0).stand(0, 2), 31);
        DukeIsLost x = new DukeIsLost();
        x.finder(0, 0, 0);
        due("from nowhere", x.stand(0, 2), 0);
        x.set(3, 0, 128);
        due("from 7", x.stand(0, 2), 128);
        x.set(3, 0, 0);
        due("from all", x.stand(0, 2), 255);
    }

    @Holds("SHUT (one): the LANE (10 times the lesser PLACE, and the other) without which SURE (n 40) is least")
    static void terms_shutTellsTheLesserPlaceFirst() {
        // From 6 he goes to 7 or 5; one at 5 has him at once if he can't go to 7.
        DukeIsLost x = duchy("76 65");
        x.finder(0, 0, 5);
        x.set(3, 0, 64);
        due("SURE", x.sure(0, 40, 0), 2);
        due("67", x.shut(0, 0), 67);
        due("SURE then", x.shut(0, 1), 1);
        // The like with 0 and 1: 10 times 0, and 1.
        DukeIsLost y = duchy("10 12");
        y.finder(0, 0, 2);
        y.set(3, 0, 2);
        due("01", y.shut(0, 0), 1);
    }

    @Holds("without which SURE (n 40) is least, if less")
    static void terms_shutIn40WeeksAtMost() {
        // There is none with 15; without 05, or without 15, from 2 in 40 weeks, from 4 in 41.
        DukeIsLost x = slow("15", 2);
        due("SURE", x.sure(0, 40, 0), NONE);
        due("in 40", x.shut(0, 0), 5);
        due("SURE then", x.shut(0, 1), 40);
        DukeIsLost y = slow("15", 4);
        due("in 41", y.shut(0, 0), NONE);
        due("SURE then", y.shut(0, 1), NONE);
        // As quick as with all lanes isn't less.
        DukeIsLost w = duchy("01 23");
        w.finder(0, 0, 0);
        w.set(3, 0, 3);
        due("SURE", w.sure(0, 40, 0), 2);
        due("without 23 it's like", w.shut(0, 0), NONE);
        due("SURE as so", w.shut(0, 1), 2);
    }

    @Holds("(there is none: if there is one then)")
    static void terms_shutIfThereIsOneThen() {
        DukeIsLost x = duchy("01 12 02");
        x.finder(0, 0, 0);
        x.set(3, 0, 7);
        due("none on a ring", x.sure(0, 40, 0), NONE);
        due("there is one then", x.shut(0, 0), 1);
        due("SURE then", x.shut(0, 1), 2);
        x.set(3, 0, 7 + 128);
        due("he may be at 7: there is none then", x.shut(0, 0), NONE);
        due("nor then", x.shut(0, 1), NONE);
    }

    @Holds("(there is none: if there is one then); of like ones the first; NONE.")
    static void terms_shutOfLikeOnesTheFirst() {
        DukeIsLost x = duchy("67 56 57");
        x.finder(0, 0, 5);
        x.set(3, 0, 224);
        due("each of three will do", x.shut(0, 0), 56);
        DukeIsLost y = new DukeIsLost();
        y.finder(0, 0, 0);
        due("no LANES", y.shut(0, 0), NONE);
        due("no LANES", y.shut(0, 1), NONE);
        // 05 ahead of 15, both in 40 weeks.
        due("05", slow("15", 3).shut(0, 0), 5);
    }

    // ---- Terms: BEST LOOK, EYES

    @Holds("BEST LOOK (n 1 .. 3): of all sets of n PLACES that (bits) by which")
    static void terms_lookAtNPlaces() {
        DukeIsLost x = new DukeIsLost();
        for (int n = 1; n < 4; n++) {
            due("n " + n, Integer.bitCount(x.look(n, 0)), n);
            due("left", x.look(n, 1), 8 - n);
        }
        due("n 0", x.look(0, 0), BAD);
        due("n 4", x.look(4, 0), BAD);
        x.set(3, 0, 128);
        due("7 alone", x.look(1, 0), 128);
        due("7, and the least beside", x.look(2, 0), 129);
        due("7, and the two least beside", x.look(3, 0), 131);
        x.set(3, 0, 224);
        due("5, 6, 7", x.look(3, 0), 224);
        due("none is left", x.look(3, 1), 0);
    }

    @Holds("fewest PLACES would be left of THOUGHT a WEEK further on (SPREAD, these left out, SPREAD again)")
    static void terms_lookBetweenTwoSpreads() {
        // All of 1 .. 4 come to 0; seen there, none is left.
        DukeIsLost x = duchy("01 02 03 04");
        x.set(3, 0, 30);
        due("at 0", x.look(1, 0), 1);
        due("left", x.look(1, 1), 0);
        // From 0 he goes to 1 .. 4, and from any of them to 0.
        x.set(3, 0, 1);
        due("at 1", x.look(1, 0), 1);
        due("left", x.look(1, 1), 1);
        due("at three of them", x.look(3, 1), 1);
        // Behind the first SPREAD he is at 1 or 3; from 3 he goes on to four places, from 1 to one.
        DukeIsLost y = duchy("01 37 34 35 36");
        y.set(3, 0, 129);
        due("at 3", y.look(1, 0), 8);
        due("left", y.look(1, 1), 1);
        due("at 1 and 3", y.look(2, 0), 10);
        due("left", y.look(2, 1), 0);
    }

    @Holds("of like ones the least as bits")
    static void terms_lookOfLikeOnesTheLeastAsBits() {
        DukeIsLost x = new DukeIsLost();
        due("1", x.look(1, 0), 1);
        due("2", x.look(2, 0), 3);
        due("3", x.look(3, 0), 7);
        x.set(3, 0, 0);
        due("1", x.look(1, 0), 1);
        due("2", x.look(2, 0), 3);
        due("3", x.look(3, 0), 7);
        // Wherever one looks, all are left.
        DukeIsLost all = new DukeIsLost();
        for (int a = 0; a < 8; a++) {
            for (int b = 0; b < a; b++) {
                all.lane(a, b, 1);
            }
        }
        for (int n = 1; n < 4; n++) {
            due("of like ones, n " + n, all.look(n, 0), (1 << n) - 1);
            due("all are left, n " + n, all.look(n, 1), 8);
        }
        x.set(3, 0, 0xF0);
        due("1", x.look(1, 0), 16);
        due("2", x.look(2, 0), 48);
        due("3", x.look(3, 0), 112);
    }

    @Holds("EYES (one): PLACES (bits) at which one SEES.")
    static void terms_eyesWhereverOneStands() {
        DukeIsLost x = new DukeIsLost();
        x.finder(0, 5, 7);
        x.finder(5, 5, 7);
        rule(x, "goes 1;stays 0;sees place=0 or place=7 or place=number;");
        due("at 0, 5, 7", x.told(0, 8), 1 + 32 + 128);
        due("an HONEST, nowhere", x.told(1, 8), 0);
    }

    // ---- Promise 13

    @Holds("SURE (what 0; NONE)")
    static void promise13_sureOrNone() {
        due("6", five(0).sure(0, 6, 0), 6);
        due("NONE", five(0).sure(0, 5, 0), NONE);
        DukeIsLost x = five(0);
        x.sure(0, 40, 0);
        due("in thought: AT", x.told(0, 5), 0);
        due("in thought: THOUGHT", x.told(0, 3), 31);
        due("in thought: WEEK", x.told(0, 0), 0);
        due("in thought: FOUND", x.told(0, 7), 0);
        due("in thought: DUKE", x.told(0, 2), 0);
    }

    @Holds("the WAY (1; NONE; 0: at once)")
    static void promise13_theWayNoneOr0() {
        due("a WAY", five(0).sure(0, 6, 1), 234432);
        due("NONE, as there is none", five(0).sure(0, 5, 1), NONE);
        due("NONE, as it is long", slow("", 2).sure(0, 40, 1), NONE);
        DukeIsLost x = five(0);
        x.set(3, 0, 0);
        due("at once", x.sure(0, 0, 1), 0);
        due("at once", x.sure(0, 40, 1), 0);
    }

    @Holds("BAD: none such")
    static void promise13_badNoneSuch() {
        for (int one : new int[] {3, 5, -1, MIN, MAX}) {
            refused("sure(" + one + ", 0, 0)", BAD, x -> x.sure(one, 0, 0));
        }
        due("there is none yet", new DukeIsLost().sure(0, 0, 0), BAD);
    }

    @Holds("BAD: none such, n")
    static void promise13_badN() {
        for (int n : new int[] {41, -1, MIN, MAX}) {
            refused("sure(0, " + n + ", 0)", BAD, x -> x.sure(0, n, 0));
            refused("sure(0, " + n + ", 1)", BAD, x -> x.sure(0, n, 1));
        }
        DukeIsLost y = five(0);
        y.set(3, 0, 0);
        due("THOUGHT none", y.sure(0, 41, 0), BAD);
        due("THOUGHT none", y.sure(0, -1, 0), BAD);
    }

    @Holds("BAD: none such, n, what.")
    static void promise13_badWhat() {
        for (int what : new int[] {2, -1, MIN, MAX}) {
            refused("sure(0, 40, " + what + ")", BAD, x -> x.sure(0, 40, what));
        }
    }

    // ---- Promise 14

    @Holds("STAND (what 0; NONE)")
    static void promise14_standOrNone() {
        DukeIsLost x = five(4);
        due("STAND", x.stand(0, 0), 0);
        due("one stands where one did", x.told(0, 5), 4);
        x.set(3, 0, 255);
        due("NONE", x.stand(0, 0), NONE);
    }

    @Holds("SURE then (1; NONE)")
    static void promise14_sureThenOrNone() {
        DukeIsLost x = five(4);
        due("SURE then", x.stand(0, 1), 6);
        x.set(3, 0, 255);
        due("NONE", x.stand(0, 1), NONE);
        x.set(3, 0, 0);
        due("at once", x.stand(0, 1), 0);
        due("in 40", slow("", 1).stand(0, 1), 40);
    }

    @Holds("FROM (2; bits)")
    static void promise14_fromAsBits() {
        DukeIsLost x = five(4);
        due("FROM", x.stand(0, 2), 31);
        x.set(3, 0, 255);
        due("from nowhere", x.stand(0, 2), 0);
        x.set(3, 0, 0);
        due("from all", x.stand(0, 2), 255);
        due("in 40", slow("", 1).stand(0, 2), 76);
    }

    @Holds("BAD.")
    static void promise14_bad() {
        for (int one : new int[] {3, 5, -1, MIN, MAX}) {
            refused("stand(" + one + ", 0)", BAD, x -> x.stand(one, 0));
            refused("stand(" + one + ", 2)", BAD, x -> x.stand(one, 2));
        }
        for (int what : new int[] {3, -1, MIN, MAX}) {
            refused("stand(0, " + what + ")", BAD, x -> x.stand(0, what));
        }
        due("there is none yet", new DukeIsLost().stand(0, 0), BAD);
    }

    // ---- Promise 15

    @Holds("SHUT (what 0; NONE)")
    static void promise15_shutOrNone() {
        DukeIsLost x = duchy("01 12 02");
        x.finder(0, 0, 0);
        x.set(3, 0, 7);
        due("SHUT", x.shut(0, 0), 1);
        due("all LANES are as they were", x.count(1), 3);
        due("BESIDE 0", x.told(0, 9), 6);
        due("BESIDE 1", x.told(1, 9), 5);
        due("BESIDE 2", x.told(2, 9), 3);
        x.set(3, 0, 0);
        due("NONE", x.shut(0, 0), NONE);
    }

    @Holds("SURE then (1; as so, if none; NONE)")
    static void promise15_sureThenOrAsSo() {
        DukeIsLost x = duchy("01 12 02");
        x.finder(0, 0, 0);
        x.set(3, 0, 7);
        due("SURE then", x.shut(0, 1), 2);
        x.set(3, 0, 0);
        due("as so: at once", x.shut(0, 1), 0);
        x.set(3, 0, 255);
        due("as so: NONE", x.shut(0, 1), NONE);
        DukeIsLost y = duchy("01");
        y.finder(0, 0, 0);
        y.set(3, 0, 3);
        due("as so", y.shut(0, 0), NONE);
        due("as so", y.shut(0, 1), 2);
    }

    @Holds("BAD.")
    static void promise15_bad() {
        for (int one : new int[] {3, 5, -1, MIN, MAX}) {
            refused("shut(" + one + ", 0)", BAD, x -> x.shut(one, 0));
        }
        for (int what : new int[] {2, -1, MIN, MAX}) {
            refused("shut(0, " + what + ")", BAD, x -> x.shut(0, what));
        }
        due("there is none yet", new DukeIsLost().shut(0, 0), BAD);
    }

    // ---- Promise 16

    @Holds("BEST LOOK (what 0; bits)")
    static void promise16_bestLookAsBits() {
        DukeIsLost x = duchy(FIVE);
        x.set(3, 0, 31);
        due("1", x.look(1, 0), 2);
        due("2", x.look(2, 0), 10);
        due("3", x.look(3, 0), 11);
        due("THOUGHT is as it was", x.told(0, 3), 31);
        x.finder(0, 0, 1);
        due("FINDERS are no matter", x.look(1, 0), 2);
    }

    @Holds("how many PLACES are left (1)")
    static void promise16_howManyAreLeft() {
        DukeIsLost x = duchy(FIVE);
        x.set(3, 0, 31);
        due("1", x.look(1, 1), 4);
        due("2", x.look(2, 1), 2);
        due("3", x.look(3, 1), 2);
        x.set(3, 0, 0);
        due("none", x.look(1, 1), 0);
        due("all but one", new DukeIsLost().look(1, 1), 7);
    }

    @Holds("BAD: n")
    static void promise16_badN() {
        for (int n : new int[] {0, 4, -1, MIN, MAX}) {
            refused("look(" + n + ", 0)", BAD, x -> x.look(n, 0));
            refused("look(" + n + ", 1)", BAD, x -> x.look(n, 1));
        }
    }

    @Holds("BAD: n, what.")
    static void promise16_badWhat() {
        for (int what : new int[] {2, -1, MIN, MAX}) {
            refused("look(1, " + what + ")", BAD, x -> x.look(1, what));
        }
    }
}
