// The sentences on places, lanes, the duke, finders and refusals: of 'What it is', 'Terms', promises 1 to 5.
public final class DuchySentences extends Bench {
    public static void main(String[] args) {
        run(DuchySentences.class);
    }

    // ---- What it is

    @Holds("==== 1 PLACES 0 ..")
    static void whatItIs_placesAre0To7() {
        DukeIsLost x = new DukeIsLost();
        due("lane(0, 7, 1)", x.lane(0, 7, 1), 0);
        due("finder at 7", x.finder(0, 0, 7), 0);
        due("finder at 0", x.finder(0, 0, 0), 1);
        due("DUKE at 7", x.set(2, 0, 7), 0);
        due("DUKE at 0", x.set(2, 0, 0), 7);
        due("BESIDE 0", x.told(0, 9), 128);
        due("BESIDE 7", x.told(7, 9), 1);
        due("behind 7", x.told(7, 10), 1);
        for (int p : new int[] {8, -1, MAX, MIN}) {
            due("lane from " + p, x.lane(p, 1, 1), BAD);
            due("lane to " + p, x.lane(1, p, 1), BAD);
            due("finder at " + p, x.finder(0, 0, p), BAD);
            due("DUKE at " + p, x.set(2, 0, p), BAD);
            due("FINDER at " + p, x.set(5, 0, p), BAD);
            due("BESIDE " + p, x.told(p, 9), BAD);
            due("behind " + p, x.told(p, 10), BAD);
            due("go to " + p, x.go(0, p), BAD);
        }
    }

    @Holds("up to five finders of kinds")
    static void whatItIs_upToFiveFinders() {
        DukeIsLost x = new DukeIsLost();
        due("none at first", x.count(0), 0);
        for (int i = 0; i < 5; i++) {
            due("finder", x.finder(i, 0, 0), i);
        }
        due("a sixth", x.finder(5, 0, 0), FULL);
        due("five", x.count(0), 5);
    }

    @Holds("An object is used for at most 512 calls after it has been made")
    static void whatItIs_the512thCallIsAnsweredAsAnyOther() {
        DukeIsLost x = new DukeIsLost();
        for (int i = 1; i <= 510; i++) {
            due("call " + i, x.set(0, 0, i), i - 1);
        }
        due("call 511", x.week(1), NONE);
        due("call 512", x.told(0, 0), 511);
    }

    @Holds("An object is used for at most 512 calls")
    static void whatItIs_512CallsCanAllBeDearOnes() {
        DukeIsLost x = duchy("01 12 23 34");
        x.finder(0, 0, 0);
        x.set(3, 0, 31);
        for (int i = 7; i <= 512; i++) {
            due("call " + i, x.sure(0, 40, 1), 234432);
        }
    }

    // ---- Terms: the duchy

    @Holds("LANES: two PLACES are BESIDE each other, or not (not, at first)")
    static void terms_noPlacesAreBesideAtFirst() {
        DukeIsLost x = new DukeIsLost();
        for (int a = 0; a < 8; a++) {
            due("BESIDE " + a, x.told(a, 9), 0);
            for (int b = 0; b < 8; b++) {
                if (a != b) {
                    due("lane " + a + b, x.lane(a, b, 0), 0);
                }
            }
        }
    }

    @Holds("two PLACES are BESIDE each other")
    static void terms_aLaneIsOneBothWays() {
        DukeIsLost x = new DukeIsLost();
        due("lane(2, 5, 1)", x.lane(2, 5, 1), 0);
        due("BESIDE 2", x.told(2, 9), 32);
        due("BESIDE 5", x.told(5, 9), 4);
        due("lane(5, 2, 0)", x.lane(5, 2, 0), 1);
        due("BESIDE 2", x.told(2, 9), 0);
        due("BESIDE 5", x.told(5, 9), 0);
    }

    @Holds("WEEK (0 .. 999; 0 at first)")
    static void terms_weekIs0To999() {
        DukeIsLost x = new DukeIsLost();
        due("at first", x.told(0, 0), 0);
        due("999", x.set(0, 0, 999), 0);
        due("1000", x.set(0, 0, 1000), BAD);
        due("-1", x.set(0, 0, -1), BAD);
        due("0", x.set(0, 0, 0), 999);
        due("0", x.told(0, 0), 0);
    }

    @Holds("POSE: what he passes for (0 .. 9; 0 at first)")
    static void terms_poseIs0To9() {
        DukeIsLost x = new DukeIsLost();
        due("at first", x.told(0, 1), 0);
        due("9", x.set(1, 0, 9), 0);
        due("10", x.set(1, 0, 10), BAD);
        due("-1", x.set(1, 0, -1), BAD);
        due("0", x.set(1, 0, 0), 9);
        due("0", x.told(0, 1), 0);
    }

    @Holds("DUKE: the PLACE at which he truly is (0 at first)")
    static void terms_theDukeIsAt0AtFirst() {
        DukeIsLost x = new DukeIsLost();
        due("DUKE", x.told(0, 2), 0);
        due("drawn, no WEEKS", x.drawn(1, 0), 0);
        due("was at 0", x.set(2, 0, 7), 0);
        due("DUKE", x.told(0, 2), 7);
    }

    @Holds("THOUGHT: PLACES (bits) at which he could be, by what is known (all, 255, at first)")
    static void terms_thoughtIsAllAtFirst() {
        DukeIsLost x = new DukeIsLost();
        due("at first", x.told(0, 3), 255);
        due("8 PLACES", x.count(2), 8);
        due("none", x.set(3, 0, 0), 255);
        due("no PLACES", x.count(2), 0);
        due("all", x.set(3, 0, 255), 0);
        due("256", x.set(3, 0, 256), BAD);
        due("-1", x.set(3, 0, -1), BAD);
        due("all yet", x.told(0, 3), 255);
    }

    @Holds("FINDERS (5 at most, numbered from 0)")
    static void terms_fiveFindersNumberedFrom0() {
        DukeIsLost x = new DukeIsLost();
        for (int i = 0; i < 5; i++) {
            due("no FINDER " + i + " yet", x.told(i, 4), BAD);
            due("finder", x.finder(0, 9 - i, 0), i);
            due("NUMBER of " + i, x.told(i, 4), 9 - i);
        }
        due("one more", x.finder(0, 0, 0), FULL);
        due("no FINDER 5", x.told(5, 4), BAD);
        due("no FINDER -1", x.told(-1, 4), BAD);
    }

    @Holds("have a KIND: 0 FINDER, 1 FARMER under FINDER, 2 MINTER under FINDER, 3 DOG under FARMER,"
            + " 4 CLERK under MINTER, 5 HONEST under FINDER")
    static void terms_kindsAre0To5() {
        DukeIsLost x = new DukeIsLost();
        due("KIND 0", x.finder(0, 0, 0), 0);
        due("KIND 5", x.finder(5, 0, 0), 1);
        due("KIND 6", x.finder(6, 0, 0), BAD);
        due("KIND -1", x.finder(-1, 0, 0), BAD);
        due("KIND of 0", x.told(0, 6), 0);
        due("KIND of 1", x.told(1, 6), 5);
    }

    @Holds("a NUMBER (0 .. 9)")
    static void terms_numberIs0To9() {
        DukeIsLost x = new DukeIsLost();
        due("NUMBER 0", x.finder(0, 0, 0), 0);
        due("NUMBER 9", x.finder(0, 9, 0), 1);
        due("NUMBER 10", x.finder(0, 10, 0), BAD);
        due("NUMBER -1", x.finder(0, -1, 0), BAD);
        due("0 becomes 9", x.set(4, 0, 9), 0);
        due("9 becomes 0", x.set(4, 1, 0), 9);
        due("10", x.set(4, 0, 10), BAD);
        due("-1", x.set(4, 0, -1), BAD);
        due("told", x.told(0, 4), 9);
    }

    @Holds("FOUND him so often (0 .. 999; 0)")
    static void terms_foundIs0AtFirst() {
        DukeIsLost x = new DukeIsLost();
        x.finder(0, 0, 0);
        due("FOUND", x.told(0, 7), 0);
        for (int i = 1; i <= 120; i++) {
            due("found", x.week(i), 0);
            due("FOUND", x.told(0, 7), i);
        }
        x.finder(0, 0, 0);
        due("FOUND of a later one", x.told(1, 7), 0);
    }

    @Holds("NONE is -1")
    static void terms_noneIsMinus1() {
        due("NONE", DukeIsLost.NONE, -1);
        due("nobody finds him", new DukeIsLost().week(0), -1);
    }

    @Holds("NO, where a long is answered, -4611686018427387904")
    static void terms_noIsALong() {
        due("NO", DukeIsLost.NO, -(1L << 62));
        due("chance, m 0", new DukeIsLost().chance(0, 0, 0), -(1L << 62));
    }

    // ---- Terms: refusals

    @Holds("Refusals, the first that the call's words name")
    static void terms_ofTwoRefusalsTheFirstIsAnswered() {
        DukeIsLost x = full();
        x.sheet(1, INTS, 40);
        x.sheet(2, SHORTS, 2);
        due("finder: BAD, then FULL", x.finder(6, 0, 0), BAD);
        due("feed: BAD, then FULL", x.feed(256), BAD);
        due("go: BAD, then STATE", x.go(0, 8), BAD);
        due("tells: BAD (what), then -11", x.tells(3, 5), BAD);
        due("eyes: BAD (none such), then -11", x.eyes(3, 5, 0), BAD);
        due("eyes: BAD (what), then -11", x.eyes(3, 0, 2), BAD);
        due("sheet: BAD (sort), then -14", x.sheet(0, 3, -1), BAD);
        due("sheet: BAD (SHEET), then -14", x.sheet(4, 0, -1), BAD);
        due("cell: BAD, then -11", x.cell(4, 0, 0), BAD);
        due("cell: -11, then -12", x.cell(3, 40, 0), NOTHING);
        due("copy: BAD (the other), then -11", x.copy(3, 0, 4, 0, 0), BAD);
        due("copy: -11, then -13", x.copy(0, 0, 3, 0, 0), NOTHING);
        due("copy: -11, then -12", x.copy(3, -1, 3, -1, -1), NOTHING);
        due("copy: -13, then -12", x.copy(0, -1, 1, -1, -1), OTHER);
        due("finders: BAD (n), then -13", x.finders(0, 1, 0, 6), BAD);
        due("finders: BAD (n), then -11", x.finders(3, 1, 0, 6), BAD);
        due("finders: -13, then -12", x.finders(0, 1, -1, 1), OTHER);
        due("finders: -11, then -12", x.finders(3, 1, -1, 1), NOTHING);
        due("taken: BAD, then -11", x.taken(5, 6), BAD);
        due("taken: BAD, then -13", x.taken(0, 6), BAD);
    }

    @Holds("they change nothing")
    static void terms_refusalsChangeNothing() {
        refused("set", BAD, x -> x.set(0, 0, 1000));
        refused("lane", BAD, x -> x.lane(0, 1, 2));
        refused("finder", BAD, x -> x.finder(0, 0, 8));
        refused("finder", FULL, Bench::full, x -> x.finder(0, 0, 0));
        refused("feed", BAD, x -> x.feed(256));
        refused("feed", FULL, Bench::full, x -> x.feed(0));
        refused("text", FULL, Bench::full, x -> x.text());
        refused("force", BAD, x -> x.force(2));
        refused("week", STATE, Bench::full, x -> x.week(0));
        refused("go", STATE, x -> x.go(0, 7));
        refused("go", BAD, x -> x.go(3, 1));
        refused("film", BAD, x -> x.film(0, 0, 31));
        refused("sheet, n above 40", BAD, x -> x.sheet(0, 0, 41));
        refused("sheet, n below 0", SMALL, x -> x.sheet(0, 0, -1));
        refused("sheet, sort", BAD, x -> x.sheet(0, 3, 0));
        refused("cell", OUTSIDE, x -> x.cell(0, 2, 0));
        refused("cell", NOTHING, x -> x.cell(3, 0, 0));
        refused("copy", OTHER, x -> x.copy(2, 0, 0, 0, 1));
        refused("copy", OUTSIDE, x -> x.copy(0, 1, 0, 0, 2));
        refused("copy", NOTHING, x -> x.copy(0, 0, 3, 0, 1));
        refused("finders", OTHER, x -> x.finders(2, 0, 0, 1));
        refused("finders", NOTHING, x -> x.finders(3, 0, 0, 1));
        refused("taken", OTHER, x -> x.taken(0, 1));
        DukeIsLost y = new DukeIsLost();
        due("back", y.back(), STATE);
        due("and again", y.back(), STATE);
    }

    @Holds("BAD (-2: a number is none such or not as told)")
    static void terms_badIsMinus2() {
        due("BAD", DukeIsLost.BAD, -2);
        due("a number that is none such", new DukeIsLost().told(0, 4), -2);
        due("a number not as told", new DukeIsLost().feed(-1), -2);
    }

    @Holds("STATE (-3)")
    static void terms_stateIsMinus3() {
        due("STATE", DukeIsLost.STATE, -3);
        due("back", new DukeIsLost().back(), -3);
    }

    @Holds("FULL (-4)")
    static void terms_fullIsMinus4() {
        due("FULL", DukeIsLost.FULL, -4);
        due("finder", full().finder(0, 0, 0), -4);
        due("feed", full().feed(0), -4);
        due("text", full().text(), -4);
    }

    @Holds("-11 nothing where something is asked")
    static void terms_nothingIsMinus11() {
        DukeIsLost x = new DukeIsLost();
        due("cell of a missing SHEET", x.cell(0, 0, 0), -11);
        due("copy of one", x.copy(0, 0, 0, 0, 0), -11);
        due("tells of one", x.tells(0, 0), -11);
        due("finders by one", x.finders(0, 0, 0, 0), -11);
        due("taken, no FINDER", x.taken(0, 0), -11);
        x.finder(0, 0, 0);
        due("eyes of one", x.eyes(0, 0, 0), -11);
    }

    @Holds("-12 a place outside")
    static void terms_outsideIsMinus12() {
        DukeIsLost x = new DukeIsLost();
        x.sheet(0, INTS, 3);
        due("cell", x.cell(0, 3, 0), -12);
        due("copy", x.copy(0, 3, 0, 0, 1), -12);
        due("finders", x.finders(0, INTS, 1, 1), -12);
    }

    @Holds("-13 a thing of another sort or KIND")
    static void terms_anotherSortOrKindIsMinus13() {
        DukeIsLost x = new DukeIsLost();
        x.sheet(0, INTS, 3);
        x.sheet(1, BYTES, 3);
        x.finder(0, 0, 0);
        due("copy", x.copy(0, 0, 1, 0, 1), -13);
        due("finders", x.finders(0, BYTES, 0, 1), -13);
        due("taken", x.taken(0, 1), -13);
    }

    @Holds("-14 a size below 0")
    static void terms_aSizeBelow0IsMinus14() {
        due("sheet", new DukeIsLost().sheet(0, BYTES, -1), -14);
        due("sheet", new DukeIsLost().sheet(3, INTS, MIN), -14);
    }

    // ---- Terms: what he might, who sees

    @Holds("MIGHT GO (from a PLACE to one BESIDE it): if goes isn't 0")
    static void terms_heMightGoIfGoesIsNot0() {
        for (String e : new String[] {"1", "2", "-1", "9999", "4096*4096*128"}) {
            DukeIsLost x = duchy("01 12");
            rule(x, "goes " + e + ";stays 0;sees 1;");
            due("goes " + e, x.told(1, 10), 5);
        }
        DukeIsLost x = duchy("01 12");
        rule(x, "goes 0;stays 1;sees 1;");
        due("goes 0", x.told(1, 10), 2);
        DukeIsLost y = duchy("01 12");
        rule(y, "goes 1-to;stays 0;sees 1;");
        due("goes isn't 0 to 0 and 2", y.told(1, 10), 5);
        due("goes is 0 to 1: he stays", y.told(0, 10), 1);
        due("3 isn't BESIDE 2", y.told(2, 10), 4);
        due("nothing is BESIDE 3", y.told(3, 10), 8);
    }

    @Holds("MIGHT STAY (at a PLACE): if stays isn't 0")
    static void terms_heMightStayIfStaysIsNot0() {
        for (String e : new String[] {"1", "2", "-1", "9999", "4096*4096*128"}) {
            DukeIsLost x = duchy("01 12");
            rule(x, "goes 1;stays " + e + ";sees 1;");
            due("stays " + e, x.told(1, 10), 7);
        }
        due("stays 0, of TEXT 0", duchy("01 12").told(1, 10), 5);
    }

    @Holds("Who could do neither stays.")
    static void terms_whoCouldDoNeitherStays() {
        DukeIsLost x = duchy("01 12");
        due("no LANE from 7", x.told(7, 10), 128);
        rule(x, "goes to=2;stays 0;sees 1;");
        due("1 goes to 2 alone", x.told(1, 10), 4);
        due("0 goes nowhere", x.told(0, 10), 1);
        due("SPREAD", x.spread(5, 0), 5);
        x.set(2, 0, 0);
        x.week(5);
        due("truly, too", x.told(0, 2), 0);
        due("drawn, too", x.drawn(5, 40), 0);
    }

    /** What one of a kind sees, by a rule; POSE is 4, WEEK 5. */
    private static int eyes(int kind, int number, String sees) {
        DukeIsLost x = new DukeIsLost();
        rule(x, "goes 1;stays 0;sees " + sees + ";");
        x.set(0, 0, 5);
        x.set(1, 0, 4);
        x.finder(kind, number, 0);
        return x.told(0, 8);
    }

    @Holds("SEES (a FINDER, were both at a PLACE p, sees telling yes, if it isn't 0): FINDER: if yes")
    static void terms_aFinderSeesIfYes() {
        due("sees 1", eyes(0, 0, "1"), 255);
        due("sees 0", eyes(0, 0, "0"), 0);
        due("sees -1 isn't 0", eyes(0, 0, "-1"), 255);
        due("sees place: not at 0", eyes(0, 0, "place"), 254);
        due("sees 7-place: not at 7", eyes(0, 0, "7-place"), 127);
        due("another's place is no matter", eyes(0, 3, "place=3"), 8);
    }

    @Holds("FARMER: if yes, or p is NUMBER modulo 8")
    static void terms_aFarmerSeesAtTheNumberModulo8() {
        for (int number = 0; number < 8; number++) {
            due("NUMBER " + number, eyes(1, number, "0"), 1 << number);
        }
        due("NUMBER 8", eyes(1, 8, "0"), 1);
        due("NUMBER 9", eyes(1, 9, "0"), 2);
        due("if yes", eyes(1, 0, "1"), 255);
        due("either", eyes(1, 7, "place=2"), 132);
    }

    @Holds("MINTER: if yes, and p isn't odd")
    static void terms_aMinterSeesAtPlacesNotOdd() {
        due("sees 1", eyes(2, 1, "1"), 0x55);
        due("sees 0", eyes(2, 0, "0"), 0);
        due("at 6", eyes(2, 7, "5<place"), 64);
        due("0 isn't odd", eyes(2, 7, "place<2"), 1);
    }

    @Holds("DOG: always, but if POSE is NUMBER")
    static void terms_aDogSeesUnlessPoseIsNumber() {
        for (int number = 0; number < 10; number++) {
            due("NUMBER " + number, eyes(3, number, "0"), number == 4 ? 0 : 255);
            due("NUMBER " + number, eyes(3, number, "1"), number == 4 ? 0 : 255);
        }
    }

    @Holds("CLERK: as a MINTER, or if WEEK modulo 4 is 0")
    static void terms_aClerkSeesAllInEachFourthWeek() {
        for (int week : new int[] {0, 1, 2, 3, 4, 5, 8, 995, 996, 997, 998, 999}) {
            DukeIsLost x = new DukeIsLost();
            x.set(0, 0, week);
            x.finder(4, 0, 0);
            due("sees 1, WEEK " + week, x.told(0, 8), week % 4 == 0 ? 255 : 0x55);
            rule(x, "goes 1;stays 0;sees 0;");
            due("sees 0, WEEK " + week, x.told(0, 8), week % 4 == 0 ? 255 : 0);
        }
        // Of WEEKS behind 999, too: 999 and 1 more.
        DukeIsLost y = new DukeIsLost();
        rule(y, "goes 1;stays 0;sees 0;");
        y.finder(4, 0, 1);
        y.set(0, 0, 999);
        y.set(3, 0, 2);
        due("in WEEK 1000", y.run(1, 0), 0);
        y.set(0, 0, 998);
        due("in WEEK 999", y.run(1, 0), 2);
    }

    @Holds("HONEST: never.")
    static void terms_anHonestNeverSees() {
        due("sees 1", eyes(5, 0, "1"), 0);
        due("POSE is no matter", eyes(5, 4, "1"), 0);
        DukeIsLost x = new DukeIsLost();
        x.finder(5, 0, 0);
        due("in WEEK 0", x.told(0, 8), 0);
        due("nor truly", x.week(0), NONE);
    }

    // ---- Promise 1

    @Holds("No FINDERS, no LANES.")
    static void promise1_noFindersNoLanes() {
        DukeIsLost x = new DukeIsLost();
        due("FINDERS", x.count(0), 0);
        due("LANES", x.count(1), 0);
        for (int i = 0; i < 5; i++) {
            due("no FINDER " + i, x.taken(i, 0), NOTHING);
        }
        for (int p = 0; p < 8; p++) {
            due("BESIDE " + p, x.told(p, 9), 0);
        }
    }

    @Holds("`DukeIsLost()`")
    static void promise1_twoObjectsShareNothing() {
        DukeIsLost x = settled();
        x.force(0);
        DukeIsLost y = new DukeIsLost();
        due("FINDERS", y.count(0), 0);
        due("LANES", y.count(1), 0);
        due("TEXTS", y.count(3), 1);
        due("THE TAPE", y.count(4), 0);
        due("no IMAGE", y.back(), STATE);
        due("no SHEET", y.cell(0, 0, 0), NOTHING);
        due("WEEK", y.told(0, 0), 0);
        y.set(0, 0, 500);
        due("WEEK of the other", x.told(0, 0), 21);
    }

    // ---- Promise 2

    @Holds("WEEK (what 0; of does not matter)")
    static void promise2_ofDoesNotMatterForWeek() {
        ofDoesNotMatter(0, 999, 0);
    }

    @Holds("POSE (1; nor)")
    static void promise2_ofDoesNotMatterForPose() {
        ofDoesNotMatter(1, 9, 0);
    }

    @Holds("DUKE (2; nor)")
    static void promise2_ofDoesNotMatterForDuke() {
        ofDoesNotMatter(2, 7, 0);
    }

    @Holds("THOUGHT (3; nor; bits)")
    static void promise2_ofDoesNotMatterForThought() {
        ofDoesNotMatter(3, 254, 255);
    }

    private static void ofDoesNotMatter(int what, int v, int first) {
        DukeIsLost x = new DukeIsLost();
        int was = first;
        for (int of : new int[] {0, -1, 5, MIN, MAX}) {
            due("set(" + what + ", " + of + ")", x.set(what, of, v), was);
            due("told(" + of + ", " + what + ")", x.told(of, what), v);
            was = v;
        }
    }

    @Holds("NUMBER (4), where a FINDER stands (5) becomes v: what it was")
    static void promise2_ofAFinderThatOneAlone() {
        DukeIsLost x = new DukeIsLost();
        x.finder(0, 1, 2);
        x.finder(0, 3, 4);
        due("NUMBER", x.set(4, 1, 9), 3);
        due("NUMBER of the other", x.told(0, 4), 1);
        due("AT", x.set(5, 0, 7), 2);
        due("AT of the other", x.told(1, 5), 4);
        due("NUMBER again", x.set(4, 1, 0), 9);
        due("AT again", x.set(5, 0, 0), 7);
    }

    @Holds("where a FINDER stands (5) becomes v")
    static void promise2_aFinderIsSetWhereNoLaneGoes() {
        DukeIsLost x = new DukeIsLost();
        x.finder(0, 0, 0);
        due("no LANE is needed", x.set(5, 0, 7), 0);
        due("AT", x.told(0, 5), 7);
    }

    @Holds("BAD.")
    static void promise2_bad() {
        int[] most = {999, 9, 7, 255, 9, 7};
        for (int what = 0; what < 6; what++) {
            int w = what;
            refused("set(" + w + ") above", BAD, x -> x.set(w, 0, most[w] + 1));
            refused("set(" + w + ") below", BAD, x -> x.set(w, 0, -1));
            refused("set(" + w + ") far above", BAD, x -> x.set(w, 0, MAX));
            refused("set(" + w + ") far below", BAD, x -> x.set(w, 0, MIN));
        }
        for (int what : new int[] {-1, 6, 7, 8, 9, 10, MIN, MAX}) {
            refused("set(" + what + ")", BAD, x -> x.set(what, 0, 0));
        }
        for (int of : new int[] {-1, 3, 5, MIN, MAX}) {
            refused("set(4, " + of + ")", BAD, x -> x.set(4, of, 0));
            refused("set(5, " + of + ")", BAD, x -> x.set(5, of, 0));
        }
    }

    // ---- Promise 3

    @Holds("Two PLACES are BESIDE each other (on 1), or not (0): as it was.")
    static void promise3_asItWas() {
        DukeIsLost x = new DukeIsLost();
        due("on", x.lane(6, 7, 1), 0);
        due("on again", x.lane(6, 7, 1), 1);
        due("from the other", x.lane(7, 6, 1), 1);
        due("one LANE", x.count(1), 1);
        due("off", x.lane(7, 6, 0), 1);
        due("off again", x.lane(6, 7, 0), 0);
        due("none", x.count(1), 0);
        for (int a = 0; a < 8; a++) {
            for (int b = 0; b < a; b++) {
                due("lane", x.lane(a, b, 1), 0);
            }
        }
        due("all 28", x.count(1), 28);
        for (int p = 0; p < 8; p++) {
            due("BESIDE all but itself", x.told(p, 9), 255 - (1 << p));
        }
        due("one less", x.lane(0, 7, 0), 1);
        due("27", x.count(1), 27);
    }

    @Holds("BAD: no such")
    static void promise3_badPlaces() {
        for (int p : new int[] {8, -1, 32, MIN, MAX}) {
            refused("lane(" + p + ", 1, 1)", BAD, x -> x.lane(p, 1, 1));
            refused("lane(1, " + p + ", 1)", BAD, x -> x.lane(1, p, 1));
            refused("lane(1, " + p + ", 0)", BAD, x -> x.lane(1, p, 0));
        }
    }

    @Holds("one and the same")
    static void promise3_badOneAndTheSame() {
        for (int p = 0; p < 8; p++) {
            int same = p;
            refused("lane(" + p + ", " + p + ", 1)", BAD, x -> x.lane(same, same, 1));
            refused("lane(" + p + ", " + p + ", 0)", BAD, x -> x.lane(same, same, 0));
        }
    }

    @Holds("one and the same, on.")
    static void promise3_badOn() {
        for (int on : new int[] {2, -1, MIN, MAX}) {
            refused("lane(0, 1, " + on + ")", BAD, x -> x.lane(0, 1, on));
            refused("lane(0, 7, " + on + ")", BAD, x -> x.lane(0, 7, on));
        }
    }

    // ---- Promise 4

    @Holds("A FINDER: the number.")
    static void promise4_theNumberFrom0To4() {
        DukeIsLost x = new DukeIsLost();
        for (int i = 0; i < 5; i++) {
            due("finder", x.finder(5 - i, 5 + i, 7 - i), i);
        }
        for (int i = 0; i < 5; i++) {
            due("KIND", x.told(i, 6), 5 - i);
            due("NUMBER", x.told(i, 4), 5 + i);
            due("AT", x.told(i, 5), 7 - i);
            due("FOUND", x.told(i, 7), 0);
        }
    }

    @Holds("BAD; FULL.")
    static void promise4_bad() {
        for (int v : new int[] {-1, MIN, MAX}) {
            refused("kind " + v, BAD, x -> x.finder(v, 0, 0));
            refused("number " + v, BAD, x -> x.finder(0, v, 0));
            refused("on " + v, BAD, x -> x.finder(0, 0, v));
        }
        refused("kind 6", BAD, x -> x.finder(6, 0, 0));
        refused("number 10", BAD, x -> x.finder(0, 10, 0));
        refused("on 8", BAD, x -> x.finder(0, 0, 8));
        refused("kind 6, FULL", BAD, Bench::full, x -> x.finder(6, 0, 0));
    }

    @Holds("FULL.")
    static void promise4_fullBehindFive() {
        refused("a sixth", FULL, Bench::full, x -> x.finder(0, 0, 0));
        DukeIsLost x = full();
        due("a sixth", x.finder(5, 9, 7), FULL);
        due("five of THE IMAGE", x.back(), 5);
        due("a sixth", x.finder(5, 9, 7), FULL);
    }

    // ---- Promise 5

    @Holds("What 0 .. 5 as of set()")
    static void promise5_what0To5AsSet() {
        DukeIsLost x = new DukeIsLost();
        x.finder(0, 1, 2);
        int[] least = {0, 0, 0, 0, 0, 0};
        int[] most = {999, 9, 7, 255, 9, 7};
        for (int what = 0; what < 6; what++) {
            x.set(what, 0, most[what]);
            due("told(0, " + what + ")", x.told(0, what), most[what]);
            x.set(what, 0, least[what]);
            due("told(0, " + what + ")", x.told(0, what), least[what]);
        }
    }

    @Holds("6 KIND, 7 FOUND, 8 EYES (bits) of a FINDER")
    static void promise5_ofAFinder() {
        DukeIsLost x = new DukeIsLost();
        x.finder(5, 0, 0);
        x.finder(2, 0, 0);
        x.week(0);
        due("KIND of the first", x.told(0, 6), 5);
        due("KIND of the last", x.told(1, 6), 2);
        due("FOUND by the first", x.told(0, 7), 0);
        due("FOUND by the last", x.told(1, 7), 1);
        due("EYES of the first", x.told(0, 8), 0);
        due("EYES of the last", x.told(1, 8), 0x55);
    }

    @Holds("9 PLACES (bits) BESIDE a PLACE")
    static void promise5_placesBeside() {
        DukeIsLost x = duchy("07 67 27");
        due("BESIDE 7", x.told(7, 9), 1 + 64 + 4);
        due("BESIDE 0", x.told(0, 9), 128);
        due("BESIDE 1", x.told(1, 9), 0);
    }

    @Holds("10 at which he could be a WEEK behind that one")
    static void promise5_aWeekBehind() {
        DukeIsLost x = duchy("07 67 27");
        due("behind 7", x.told(7, 10), 69);
        due("behind 1, without LANES", x.told(1, 10), 2);
        rule(x, "goes week=999;stays week=999;sees 1;");
        due("he stays in WEEK 0", x.told(7, 10), 128);
        x.set(0, 0, 999);
        due("told as WEEK is", x.told(7, 10), 69 + 128);
    }

    @Holds("BAD.")
    static void promise5_bad() {
        for (int what : new int[] {-1, 11, MIN, MAX}) {
            refused("told(0, " + what + ")", BAD, x -> x.told(0, what));
        }
        for (int of : new int[] {-1, 3, 5, 7, MIN, MAX}) {
            for (int what = 4; what < 9; what++) {
                int w = what;
                refused("told(" + of + ", " + w + ")", BAD, x -> x.told(of, w));
            }
        }
        for (int of : new int[] {-1, 8, MIN, MAX}) {
            refused("told(" + of + ", 9)", BAD, x -> x.told(of, 9));
            refused("told(" + of + ", 10)", BAD, x -> x.told(of, 10));
        }
        DukeIsLost y = new DukeIsLost();
        for (int what = 4; what < 9; what++) {
            due("there is none yet", y.told(0, what), BAD);
        }
    }
}
