// The sentences on weeks that were told or drawn: of 'Terms' TOLD, DRAWN, IN m seeds, AN IMAGE; promises 17 to 24.
public final class ToldSentences extends Bench {
    public static void main(String[] args) {
        run(ToldSentences.class);
    }

    /** Places 0 and 1, a lane, one at 1 who sees: he comes and goes there week by week. */
    private static DukeIsLost pair() {
        DukeIsLost x = duchy("01");
        x.finder(0, 0, 1);
        return x;
    }

    /** So many weeks in which he comes to 1 and goes again, told from sheet 0. */
    private static void comesAndGoes(DukeIsLost x, int weeks) {
        x.sheet(0, BYTES, weeks);
        for (int i = 0; i < weeks; i++) {
            x.cell(0, i, i % 2 == 0 ? 1 : -1);
        }
    }

    // ---- Terms: TOLD

    @Holds("TOLD: a SHEET tells, WEEK by WEEK (30 at most)")
    static void terms_toldAre30WeeksAtMost() {
        DukeIsLost x = pair();
        comesAndGoes(x, 30);
        due("30, at last", x.tells(0, 0), 1);
        due("30, now", x.tells(0, 1), 1);
        due("30, none", x.tells(0, 2), NONE);
        due("30, KINDS", x.eyes(0, 0, 0), 3);
        comesAndGoes(x, 31);
        for (int what = 0; what < 5; what++) {
            due("31", x.tells(0, what), BAD);
        }
        due("31", x.eyes(0, 0, 0), BAD);
        x.sheet(0, INTS, 0);
        due("0, at last", x.tells(0, 0), 255);
    }

    @Holds("where he was seen (-1: he wasn't seen by any FINDER)")
    static void terms_toldMinus1IfNoneSawHim() {
        DukeIsLost x = pair();
        row(x, 0, BYTES, -1);
        due("not at 1", x.tells(0, 0), 253);
        due("he went from any but 0", x.tells(0, 1), 254);
        row(x, 0, BYTES, 1);
        due("at 1", x.tells(0, 0), 2);
        due("from 0", x.tells(0, 1), 1);
        x.finder(0, 0, 7);
        row(x, 0, BYTES, -1);
        due("nor at 7", x.tells(0, 0), 125);
    }

    @Holds("so many WEEKS on, PLACES (bits) at which he could be at last, if he could be at any now (THOUGHT doesn't matter)")
    static void terms_toldWhateverThoughtIs() {
        DukeIsLost x = pair();
        row(x, 0, BYTES, -1, 1);
        for (int thought : new int[] {0, 1, 128, 255}) {
            x.set(3, 0, thought);
            due("at last", x.tells(0, 0), 2);
            due("now", x.tells(0, 1), 2);
            due("none", x.tells(0, 2), NONE);
            due("THOUGHT is as it was", x.told(0, 3), thought);
        }
        x.set(2, 0, 5);
        due("nor where he truly is", x.tells(0, 0), 2);
    }

    @Holds("those at which he could be now")
    static void terms_toldWhereHeCouldBeNow() {
        // In a row of five, seen at 2 in the second week: two lanes from it, or none.
        DukeIsLost x = duchy("01 12 23 34");
        x.finder(0, 0, 2);
        row(x, 0, BYTES, -1, 2);
        due("now", x.tells(0, 1), 21);
        due("at last", x.tells(0, 0), 4);
        row(x, 0, BYTES, -1, 2, 2);
        due("now, if there is none", x.tells(0, 1), 0);
        due("at last, if there is none", x.tells(0, 0), 0);
        x.sheet(0, BYTES, 0);
        due("nothing told", x.tells(0, 1), 255);
    }

    @Holds("the first number (from 0) by which there is none; NONE")
    static void terms_toldTheFirstByWhichThereIsNone() {
        for (int i = 0; i < 30; i++) {
            DukeIsLost y = pair();
            comesAndGoes(y, 30);
            y.cell(0, i, 8);
            due("number " + i, y.tells(0, 2), i);
        }
        DukeIsLost x = pair();
        comesAndGoes(x, 30);
        due("NONE", x.tells(0, 2), NONE);
        // 1 twice can't be, by either of the two it is the later one.
        row(x, 0, BYTES, 1, 1, 8);
        due("the second", x.tells(0, 2), 1);
    }

    @Holds("KINDS (bits 0 .. 5)")
    static void terms_toldKinds() {
        DukeIsLost x = duchy("01");
        x.finder(0, 3, 1);
        x.finder(0, 0, 0);
        x.set(1, 0, 3);
        x.sheet(0, BYTES, 0);
        due("nothing told", x.eyes(0, 0, 0), 63);
        // Seen at 0 in WEEK 1, at 1 in WEEK 2: by a FINDER, a FARMER.
        row(x, 0, BYTES, 0, 1);
        due("seen", x.eyes(0, 0, 0), 3);
        row(x, 0, BYTES, 0, -1);
        due("unseen", x.eyes(0, 0, 0), 60);
        x.set(0, 0, 2);
        row(x, 0, BYTES, 0, 1);
        due("seen in WEEK 4, by a CLERK, too", x.eyes(0, 0, 0), 19);
        x.set(1, 0, 4);
        due("seen with POSE 4, by a DOG, too", x.eyes(0, 0, 0), 27);
        row(x, 0, BYTES, 8);
        due("none", x.eyes(0, 0, 0), 0);
        due("KIND is as it was", x.told(0, 6), 0);
    }

    @Holds("NUMBERS (bits 0 .. 9) of one")
    static void terms_toldNumbers() {
        DukeIsLost x = duchy("01");
        x.finder(1, 4, 1);
        x.sheet(0, BYTES, 0);
        due("nothing told", x.eyes(0, 0, 1), 1023);
        rule(x, "goes 1;stays 0;sees 0;");
        row(x, 0, BYTES, 1);
        due("a FARMER sees at 1 by 1 and 9", x.eyes(0, 0, 1), 2 + 512);
        rule(x, "goes 1;stays 0;sees number=0;");
        due("and by 0", x.eyes(0, 0, 1), 1 + 2 + 512);
        row(x, 0, BYTES, 0);
        due("none", x.eyes(0, 0, 1), 0);
        due("NUMBER is as it was", x.told(0, 4), 4);
        x.finder(1, 1, 1);
        row(x, 0, BYTES, 1);
        due("the other sees him, whatever one's is", x.eyes(0, 0, 1), 1023);
        due("of the other", x.eyes(0, 1, 1), 1 + 2 + 512);
    }

    @Holds("POSES (bits 0 .. 9)")
    static void terms_toldPoses() {
        DukeIsLost x = duchy("01");
        x.finder(3, 9, 0);
        row(x, 0, BYTES, 0);
        due("a DOG of NUMBER 9", x.tells(0, 3), 511);
        x.set(4, 0, 0);
        due("a DOG of NUMBER 0", x.tells(0, 3), 1022);
        rule(x, "goes pose<9;stays 0;sees 1;");
        row(x, 0, BYTES, 0, 0);
        due("who stays", x.tells(0, 3), 512);
        x.sheet(0, BYTES, 0);
        due("nothing told", x.tells(0, 3), 1023);
        row(x, 0, BYTES, 8);
        due("none", x.tells(0, 3), 0);
        due("POSE is as it was", x.told(0, 1), 0);
    }

    @Holds("TEXTS (bits), were they THE RULE, by which there is some PLACE left")
    static void terms_toldTexts() {
        DukeIsLost x = duchy("01");
        x.finder(0, 0, 0);
        row(x, 0, BYTES, 0, 0);
        row(x, 1, BYTES, 0, -1);
        x.sheet(2, BYTES, 0);
        due("TEXT 0 alone, he stays", x.tells(0, 4), 0);
        due("TEXT 0 alone, he goes", x.tells(1, 4), 1);
        for (int i = 1; i < 5; i++) {
            text(x, PLAIN);
        }
        text(x, "goes 0;stays 1;sees 1;");
        due("he stays", x.tells(0, 4), 32);
        due("he goes", x.tells(1, 4), 31);
        due("nothing told", x.tells(2, 4), 63);
        due("THE RULE is as it was", x.count(5), 0);
        x.force(5);
        due("whichever is THE RULE", x.tells(1, 4), 31);
        due("THE RULE is as it was", x.count(5), 5);
    }

    @Holds("(A number -1: he is at none at which a FINDER stands and SEES; else he is there,"
            + " and some FINDER stands there and SEES.)")
    static void terms_toldNumbersThatAreNoPlaces() {
        DukeIsLost x = pair();
        for (int number : new int[] {8, 9, -2, 255, 256, MIN, MAX}) {
            row(x, 0, INTS, number);
            due("at last, " + number, x.tells(0, 0), 0);
            due("none, " + number, x.tells(0, 2), 0);
        }
        row(x, 0, INTS, 0);
        due("at 0 nobody stands", x.tells(0, 0), 0);
        x.finder(5, 0, 0);
        due("at 0 an HONEST stands", x.tells(0, 0), 0);
        row(x, 0, INTS, -1);
        due("unseen at 0", x.tells(0, 0), 253);
        x.finder(0, 0, 0);
        due("one more sees at 0", x.tells(0, 0), 252);
        row(x, 0, INTS, 0);
        due("seen at 0", x.tells(0, 0), 1);
    }

    @Holds("WEEK by WEEK (30 at most), where he was seen")
    static void terms_toldWeekGoesOn() {
        // He goes in WEEK 0 and 29 alone; he is seen in WEEK 1 and 30.
        DukeIsLost x = duchy("01 12");
        rule(x, "goes week=0 or week=29;stays 0;sees week=1 or week=30;");
        x.finder(0, 0, 1);
        x.finder(0, 0, 0);
        x.sheet(0, BYTES, 30);
        for (int i = 0; i < 30; i++) {
            x.cell(0, i, i == 0 ? 1 : i == 29 ? 0 : -1);
        }
        due("at last", x.tells(0, 0), 1);
        due("now", x.tells(0, 1), 5);
        x.cell(0, 28, 1);
        due("unseen in 29", x.tells(0, 2), 28);
        x.set(0, 0, 1);
        due("from WEEK 1 on", x.tells(0, 2), 0);
        // Behind WEEK 999, too.
        DukeIsLost y = duchy("01");
        rule(y, "goes week=1000;stays 0;sees week=1001;");
        y.finder(0, 0, 1);
        y.set(0, 0, 999);
        row(y, 0, BYTES, -1, 1);
        due("he goes in 1000, is seen in 1001", y.tells(0, 1), 1);
        due("no refusal", y.tells(0, 2), NONE);
    }

    // ---- Terms: DRAWN, IN m seeds

    @Holds("DRAWN by a SEED: n WEEKS (0 .. 40) as truly, each by the next z, in thought: where he is at last")
    static void terms_drawnEachByTheNextZ() {
        DukeIsLost x = duchy("01 02 03 12 23 34 45 46 57 67");
        for (int seed : new int[] {0, 1, -1, 77, MIN, MAX}) {
            DukeIsLost truly = duchy("01 02 03 12 23 34 45 46 57 67");
            int z = seed;
            due("0 WEEKS", x.drawn(seed, 0), 0);
            for (int n = 1; n <= 40; n++) {
                truly.week(z);
                z = z(z);
                due("n " + n, x.drawn(seed, n), truly.told(0, 2));
            }
        }
        due("41 WEEKS", x.drawn(0, 41), BAD);
        due("-1 WEEKS", x.drawn(0, -1), BAD);
        due("DUKE is as he was", x.told(0, 2), 0);
        due("WEEK is as it was", x.told(0, 0), 0);
    }

    @Holds("as truly, each by the next z, in thought")
    static void terms_drawnWeekMayPass999() {
        DukeIsLost x = duchy("01");
        rule(x, "goes week=1000 or week=1038;stays week<1000;sees 1;");
        x.set(0, 0, 999);
        due("he stays in 999", x.drawn(3, 1), 0);
        due("he goes in 1000", x.drawn(3, 2), 1);
        due("then stays", x.drawn(3, 39), 1);
        due("he goes in 1038", x.drawn(3, 40), 0);
        due("WEEK", x.told(0, 0), 999);
    }

    /** From 0 he goes to 1, 2 or 3 and stays there; one sees him at 2. */
    private static DukeIsLost fork() {
        DukeIsLost x = duchy("01 02 03");
        rule(x, "goes place=0;stays 0;sees 1;");
        x.finder(0, 0, 2);
        return x;
    }

    /** By how many of m seeds he goes to 2 from the fork. */
    private static int seen(int seed, int m) {
        int many = 0;
        for (int i = 0; i < m; i++) {
            many += pick(z(seed + i), 3) == 1 ? 1 : 0;
        }
        return many;
    }

    @Holds("IN m seeds (1 .. 20), SEED and each 1 more (an int)")
    static void terms_inMSeedsThatWrap() {
        DukeIsLost x = fork();
        for (int seed : new int[] {MAX, MAX - 1, MAX - 10, -1, MIN, 0}) {
            for (int m = 1; m <= 20; m++) {
                // The fraction, not how it is told.
                due("SEED " + seed + ", m " + m, x.chance(seed, m, 0) * m, x.chance(seed, m, 1) * seen(seed, m));
            }
        }
        due("m 0", x.chance(0, 0, 0), DukeIsLost.NO);
        due("m 21", x.chance(0, 21, 0), DukeIsLost.NO);
    }

    @Holds("of these those by which somebody sees him in any of 8 WEEKS")
    static void terms_inAnyOf8Weeks() {
        for (int week = 0; week < 11; week++) {
            DukeIsLost x = duchy("01");
            rule(x, "goes 1;stays 0;sees week=" + week + ";");
            x.finder(5, 0, 0);
            x.finder(0, 0, 0);
            x.finder(0, 0, 1);
            due("seen in WEEK " + week, x.chance(0, 1, 0), week >= 1 && week <= 8 ? 1 : 0);
        }
        // WEEK may pass 999 there.
        for (int week = 1005; week < 1010; week++) {
            DukeIsLost x = new DukeIsLost();
            rule(x, "goes 1;stays 0;sees week=" + week + ";");
            x.finder(0, 0, 0);
            x.set(0, 0, 999);
            due("seen in WEEK " + week, x.chance(0, 1, 0), week <= 1007 ? 1 : 0);
        }
        due("nobody", new DukeIsLost().chance(0, 20, 0), 0);
    }

    // ---- Terms: AN IMAGE

    @Holds("AN IMAGE keeps LANES, WEEK, POSE, DUKE, THOUGHT, NUMBERS, where all stand, FOUND, THE RULE")
    static void terms_anImageKeepsEachOfThese() {
        DukeIsLost x = duchy("01 67");
        x.finder(0, 9, 0);
        x.finder(0, 8, 7);
        text(x, "goes 0;stays 1;sees 1;");
        x.set(0, 0, 998);
        x.set(1, 0, 9);
        x.set(2, 0, 7);
        x.set(3, 0, 0);
        x.force(1);
        due("found", x.week(0), 1);
        x.set(3, 0, 0);
        due("image", x.image(), 2);
        String kept = all(x);
        x.lane(0, 1, 0);
        x.lane(2, 3, 1);
        x.set(0, 0, 0);
        x.set(1, 0, 0);
        x.set(2, 0, 0);
        x.set(3, 0, 255);
        x.set(4, 0, 0);
        x.set(4, 1, 1);
        x.set(5, 0, 3);
        x.set(5, 1, 0);
        x.week(0);
        x.force(0);
        due("back", x.back(), 2);
        due("LANES of 0", x.told(0, 9), 2);
        due("LANES of 2", x.told(2, 9), 0);
        due("WEEK", x.told(0, 0), 999);
        due("POSE", x.told(0, 1), 9);
        due("DUKE", x.told(0, 2), 7);
        due("THOUGHT", x.told(0, 3), 0);
        due("NUMBER of 0", x.told(0, 4), 9);
        due("NUMBER of 1", x.told(1, 4), 8);
        due("AT of 0", x.told(0, 5), 0);
        due("AT of 1", x.told(1, 5), 7);
        due("FOUND by 0", x.told(0, 7), 0);
        due("FOUND by 1", x.told(1, 7), 1);
        due("THE RULE", x.count(5), 1);
        dueText("all", all(x), kept);
    }

    @Holds("(FINDERS that came since go)")
    static void terms_findersThatCameSinceGo() {
        DukeIsLost x = new DukeIsLost();
        x.finder(1, 1, 1);
        x.image();
        for (int i = 1; i < 5; i++) {
            due("came", x.finder(0, 0, 0), i);
        }
        due("found by one of them", x.week(0), 1);
        due("back", x.back(), 1);
        due("one is left", x.count(0), 1);
        due("the second went", x.told(1, 4), BAD);
        due("nobody sees him", x.week(0), NONE);
        due("room for four", x.finder(3, 3, 3), 1);
        due("who has not found him", x.told(1, 7), 0);
        due("of its own KIND", x.told(1, 6), 3);
        DukeIsLost y = new DukeIsLost();
        y.image();
        y.finder(0, 0, 0);
        due("back to none", y.back(), 0);
        due("none", y.count(0), 0);
    }

    @Holds("where all stand, FOUND, THE RULE (FINDERS that came since go)")
    static void terms_anImageKeepsNothingElse() {
        DukeIsLost x = new DukeIsLost();
        x.feed('g');
        row(x, 0, INTS, 5, 6);
        x.image();
        x.feed('o');
        x.sheet(0, BYTES, 3);
        x.sheet(1, SHORTS, 4);
        x.back();
        due("THE TAPE is as it is", x.count(4), 2);
        due("SHEET 0 is as it is", sortOf(x, 0), BYTES);
        due("and its size", sizeOf(x, 0), 3);
        due("SHEET 1", sortOf(x, 1), SHORTS);
        due("the fault behind 'go' and 'es'", text(x, "es 1;stays 0;sees 1;"), 1);
        x.image();
        due("a TEXT more", text(x, PLAIN), 2);
        x.force(2);
        x.back();
        due("TEXTS are as they are", x.count(3), 3);
        due("THE RULE", x.count(5), 0);
    }

    // ---- Promise 17

    @Holds("TOLD: PLACES at last (what 0; bits), now (1; bits)")
    static void promise17_placesAtLastAndNow() {
        DukeIsLost x = duchy("01 12 23 34");
        x.finder(0, 0, 2);
        row(x, 3, SHORTS, -1, 2, -1);
        due("at last", x.tells(3, 0), 10);
        due("now", x.tells(3, 1), 21);
        row(x, 3, SHORTS, 2, 2);
        due("none at last", x.tells(3, 0), 0);
        due("none now", x.tells(3, 1), 0);
        x.sheet(3, SHORTS, 0);
        due("all at last", x.tells(3, 0), 255);
        due("all now", x.tells(3, 1), 255);
    }

    @Holds("the first by which there is none (2; NONE)")
    static void promise17_theFirstByWhichThereIsNone() {
        DukeIsLost x = pair();
        row(x, 0, BYTES, 0);
        due("the first", x.tells(0, 2), 0);
        row(x, 0, BYTES, 1, 1);
        due("the second", x.tells(0, 2), 1);
        row(x, 0, BYTES, 1, -1);
        due("NONE", x.tells(0, 2), NONE);
        x.sheet(0, BYTES, 0);
        due("nothing told", x.tells(0, 2), NONE);
    }

    @Holds("POSES (3), TEXTS (4)")
    static void promise17_posesAndTexts() {
        DukeIsLost x = pair();
        row(x, 0, BYTES, 1);
        due("POSES", x.tells(0, 3), 1023);
        due("TEXTS", x.tells(0, 4), 1);
        row(x, 0, BYTES, 0);
        due("no POSES", x.tells(0, 3), 0);
        due("no TEXTS", x.tells(0, 4), 0);
    }

    @Holds("BAD: SHEET")
    static void promise17_badSheet() {
        for (int sheet : new int[] {4, -1, MIN, MAX}) {
            for (int what = 0; what < 5; what++) {
                int w = what;
                refused("tells(" + sheet + ", " + w + ")", BAD, x -> x.tells(sheet, w));
            }
        }
    }

    @Holds("BAD: SHEET, what")
    static void promise17_badWhat() {
        for (int what : new int[] {5, -1, MIN, MAX}) {
            refused("tells(0, " + what + ")", BAD, x -> x.tells(0, what));
            refused("tells(3, " + what + "), a missing one", BAD, x -> x.tells(3, what));
        }
    }

    @Holds("-11")
    static void promise17_nothingIfItIsMissing() {
        for (int what = 0; what < 5; what++) {
            int w = what;
            refused("tells(3, " + w + ")", NOTHING, x -> x.tells(3, w));
        }
        DukeIsLost y = pair();
        row(y, 0, BYTES, 1);
        y.sheet(0, MISSING, 0);
        due("one that went", y.tells(0, 0), NOTHING);
    }

    @Holds("BAD: it tells more than 30.")
    static void promise17_badIfItTellsMoreThan30() {
        for (int what = 0; what < 5; what++) {
            int w = what;
            refused("tells(1, " + w + ") of 31", BAD, x -> x.tells(1, w));
        }
        DukeIsLost y = new DukeIsLost();
        for (int sort = 0; sort < 3; sort++) {
            y.sheet(0, sort, 30);
            due("30", y.tells(0, 2), 0);
            y.sheet(0, sort, 31);
            due("31", y.tells(0, 2), BAD);
            y.sheet(0, sort, 40);
            due("40", y.tells(0, 2), BAD);
        }
    }

    // ---- Promise 18

    @Holds("KINDS (what 0), NUMBERS (1) of one by which some PLACE is left.")
    static void promise18_kindsAndNumbers() {
        DukeIsLost x = duchy("01");
        x.set(0, 0, 1);
        x.finder(2, 0, 1);
        x.finder(0, 0, 0);
        row(x, 0, BYTES, 1);
        due("KINDS of the first: FINDER, FARMER, no DOG 0", x.eyes(0, 0, 0), 3);
        due("NUMBERS of the first: a MINTER doesn't see at 1", x.eyes(0, 0, 1), 0);
        due("KINDS of the last: none helps", x.eyes(0, 1, 0), 0);
        x.sheet(0, BYTES, 0);
        due("all KINDS", x.eyes(0, 1, 0), 63);
        due("all NUMBERS", x.eyes(0, 1, 1), 1023);
    }

    @Holds("BAD: SHEET")
    static void promise18_badSheet() {
        for (int sheet : new int[] {4, -1, MIN, MAX}) {
            refused("eyes(" + sheet + ", 0, 0)", BAD, x -> x.eyes(sheet, 0, 0));
            refused("eyes(" + sheet + ", 0, 1)", BAD, x -> x.eyes(sheet, 0, 1));
        }
    }

    @Holds("BAD: SHEET, none such")
    static void promise18_badNoneSuch() {
        for (int one : new int[] {3, 5, -1, MIN, MAX}) {
            refused("eyes(0, " + one + ", 0)", BAD, x -> x.eyes(0, one, 0));
            refused("eyes(3, " + one + ", 0), a missing one", BAD, x -> x.eyes(3, one, 0));
        }
        DukeIsLost y = new DukeIsLost();
        y.sheet(0, BYTES, 0);
        due("there is none yet", y.eyes(0, 0, 0), BAD);
    }

    @Holds("BAD: SHEET, none such, what")
    static void promise18_badWhat() {
        for (int what : new int[] {2, -1, MIN, MAX}) {
            refused("eyes(0, 0, " + what + ")", BAD, x -> x.eyes(0, 0, what));
            refused("eyes(3, 0, " + what + "), a missing one", BAD, x -> x.eyes(3, 0, what));
        }
    }

    @Holds("-11")
    static void promise18_nothingIfItIsMissing() {
        refused("eyes(3, 0, 0)", NOTHING, x -> x.eyes(3, 0, 0));
        refused("eyes(3, 2, 1)", NOTHING, x -> x.eyes(3, 2, 1));
    }

    @Holds("BAD: it tells more than 30.")
    static void promise18_badIfItTellsMoreThan30() {
        refused("eyes(1, 0, 0) of 31", BAD, x -> x.eyes(1, 0, 0));
        refused("eyes(1, 0, 1) of 31", BAD, x -> x.eyes(1, 0, 1));
        DukeIsLost y = pair();
        comesAndGoes(y, 30);
        due("KINDS of 30", y.eyes(0, 0, 0), 3);
        due("NUMBERS of 30", y.eyes(0, 0, 1), 1023);
    }

    // ---- Promise 19

    @Holds("A SHEET truly becomes where he would be seen in WEEKS 1, .., n (0 .. 30; -1: he isn't)")
    static void promise19_whereHeWouldBeSeen() {
        DukeIsLost x = pair();
        due("n 0", x.film(0, 5, 0), 0);
        due("no items", sizeOf(x, 0), 0);
        due("n 1", x.film(1, 5, 1), 1);
        dueText("he is at 1", placesOf(x, 1), "1");
        due("n 30", x.film(2, 5, 30), 30);
        due("30 items", sizeOf(x, 2), 30);
        due("-1 where he isn't: it can be told", x.tells(2, 2), NONE);
        due("at last", x.tells(2, 0), 1);
        dueText("he comes and goes", placesOf(x, 2), "1-".repeat(15));
        due("in thought: WEEK", x.told(0, 0), 0);
        due("in thought: DUKE", x.told(0, 2), 0);
        due("in thought: THOUGHT", x.told(0, 3), 255);
        due("in thought: FOUND", x.told(0, 7), 0);
    }

    @Holds("in WEEKS 1, .., n")
    static void promise19_inTheWeeksBehindNow() {
        DukeIsLost x = new DukeIsLost();
        rule(x, "goes 1;stays 0;sees week=0 or week=1 or week=5 or week=1002;");
        x.finder(0, 0, 0);
        x.film(0, 0, 6);
        dueText("from WEEK 0", placesOf(x, 0), "0---0-");
        x.set(0, 0, 3);
        x.film(0, 0, 6);
        dueText("from WEEK 3", placesOf(x, 0), "-0----");
        x.set(0, 0, 999);
        x.film(0, 0, 6);
        dueText("from WEEK 999", placesOf(x, 0), "--0---");
    }

    @Holds("drawn by a SEED (bytes): n.")
    static void promise19_bytesDrawnByASeed() {
        for (int seed : new int[] {0, -1, MAX, MIN, 77}) {
            DukeIsLost x = duchy("02 04 06 24 26 46");
            for (int p = 0; p < 8; p += 2) {
                x.finder(0, 0, p);
            }
            x.sheet(0, INTS, 40);
            due("film", x.film(0, seed, 7), 7);
            due("bytes", sortOf(x, 0), BYTES);
            due("7 of them", sizeOf(x, 0), 7);
            StringBuilder drawn = new StringBuilder();
            for (int n = 1; n <= 7; n++) {
                drawn.append(x.drawn(seed, n));
            }
            dueText("as drawn by " + seed, placesOf(x, 0), drawn.toString());
        }
    }

    @Holds("A SHEET truly becomes")
    static void promise19_aMissingSheetBecomesOne() {
        DukeIsLost x = new DukeIsLost();
        for (int sheet = 0; sheet < 4; sheet++) {
            due("film", x.film(sheet, 1, 2), 2);
            due("bytes", sortOf(x, sheet), BYTES);
            due("nobody sees him", x.tells(sheet, 2), NONE);
        }
    }

    @Holds("BAD.")
    static void promise19_bad() {
        for (int sheet : new int[] {4, -1, MIN, MAX}) {
            refused("film(" + sheet + ", 0, 1)", BAD, x -> x.film(sheet, 0, 1));
        }
        for (int n : new int[] {31, -1, MIN, MAX}) {
            refused("film(0, 0, " + n + ")", BAD, x -> x.film(0, 0, n));
            refused("film(3, 0, " + n + "), a missing one", BAD, x -> x.film(3, 0, n));
        }
    }

    // ---- Promise 20

    @Holds("DRAWN.")
    static void promise20_drawn() {
        DukeIsLost x = duchy("01 02 03 04 05 06 07");
        due("0 WEEKS", x.drawn(0, 0), 0);
        due("12345 >>> 9 is 24, of 7 number 3", x.drawn(0, 1), 4);
        due("back at 0", x.drawn(0, 2), 0);
        due("by the third z", x.drawn(0, 3), 1 + pick(z(z(z(0))), 7));
        due("back at 0", x.drawn(0, 40), 0);
        x.set(2, 0, 7);
        due("0 WEEKS", x.drawn(0, 0), 7);
        due("by the second z", x.drawn(0, 2), 1 + pick(z(z(0)), 7));
    }

    @Holds("BAD: n.")
    static void promise20_badN() {
        for (int n : new int[] {41, -1, MIN, MAX}) {
            refused("drawn(0, " + n + ")", BAD, x -> x.drawn(0, n));
        }
    }

    // ---- Promise 21

    @Holds("IN m seeds: part 0 above, 1 below the line, in lowest terms.")
    static void promise21_inLowestTerms() {
        DukeIsLost x = fork();
        for (int m = 1; m <= 20; m++) {
            int above = seen(40, m);
            int common = 1;
            for (int d = 2; d <= m; d++) {
                common = above % d == 0 && m % d == 0 ? d : common;
            }
            due("above, m " + m, x.chance(40, m, 0), above / common);
            due("below, m " + m, x.chance(40, m, 1), m / common);
        }
        DukeIsLost y = new DukeIsLost();
        due("none of 20: 0", y.chance(0, 20, 0), 0);
        due("none of 20: of 1", y.chance(0, 20, 1), 1);
        y.finder(0, 0, 0);
        due("20 of 20: 1", y.chance(0, 20, 0), 1);
        due("20 of 20: of 1", y.chance(0, 20, 1), 1);
        due("1 of 1", y.chance(0, 1, 0), 1);
    }

    @Holds("NO: m")
    static void promise21_noM() {
        for (int m : new int[] {0, 21, -1, MIN, MAX}) {
            refused("chance(0, " + m + ", 0)", DukeIsLost.NO, x -> x.chance(0, m, 0));
            refused("chance(0, " + m + ", 1)", DukeIsLost.NO, x -> x.chance(0, m, 1));
        }
    }

    @Holds("NO: m, part.")
    static void promise21_noPart() {
        for (int part : new int[] {2, -1, MIN, MAX}) {
            refused("chance(0, 1, " + part + ")", DukeIsLost.NO, x -> x.chance(0, 1, part));
        }
    }

    // ---- Promise 22

    @Holds("AN IMAGE is kept: how many FINDERS.")
    static void promise22_howManyFinders() {
        DukeIsLost x = new DukeIsLost();
        due("none", x.image(), 0);
        for (int i = 1; i < 6; i++) {
            x.finder(0, 0, 0);
            due("FINDERS", x.image(), i);
        }
        x.set(0, 0, 1);
        due("back to the last", x.back(), 5);
        due("WEEK", x.told(0, 0), 0);
    }

    @Holds("AN IMAGE is kept")
    static void promise22_theLastOneAlone() {
        DukeIsLost x = new DukeIsLost();
        x.set(0, 0, 1);
        x.image();
        x.set(0, 0, 2);
        x.image();
        x.set(0, 0, 3);
        x.back();
        due("the later", x.told(0, 0), 2);
        x.back();
        due("the earlier is gone", x.told(0, 0), 2);
    }

    // ---- Promise 23

    @Holds("All that it keeps is as in THE IMAGE: how many FINDERS.")
    static void promise23_asInTheImage() {
        DukeIsLost x = settled();
        String first = all(x);
        DukeIsLost y = settled();
        due("back", y.back(), 3);
        due("WEEK", y.told(0, 0), 7);
        due("POSE", y.told(0, 1), 0);
        due("DUKE", y.told(0, 2), 0);
        due("THOUGHT", y.told(0, 3), 255);
        dueText("all of THE IMAGE", all(y).replaceAll(".*IMAGE", ""), first.replaceAll(".*IMAGE", ""));
        // It stays THE IMAGE, whatever comes behind.
        y.set(4, 0, 0);
        y.lane(0, 1, 0);
        y.set(0, 0, 500);
        due("back again", y.back(), 3);
        due("NUMBER", y.told(0, 4), 4);
        due("LANES", y.count(1), 7);
        due("WEEK", y.told(0, 0), 7);
    }

    @Holds("STATE: there is none.")
    static void promise23_stateIfThereIsNone() {
        DukeIsLost x = new DukeIsLost();
        x.finder(0, 0, 0);
        x.set(0, 0, 5);
        due("back", x.back(), STATE);
        due("FINDERS", x.count(0), 1);
        due("WEEK", x.told(0, 0), 5);
        x.image();
        due("back", x.back(), 1);
        due("back again", x.back(), 1);
    }

    // ---- Promise 24

    @Holds("How many: 0 FINDERS, 1 LANES, 2 PLACES in THOUGHT, 3 TEXTS, 4 bytes of THE TAPE, 5 THE RULE.")
    static void promise24_leastAndMost() {
        DukeIsLost x = new DukeIsLost();
        int[] first = {0, 0, 8, 1, 0, 0};
        for (int what = 0; what < 6; what++) {
            due("at first, " + what, x.count(what), first[what]);
        }
        DukeIsLost y = full();
        for (int a = 0; a < 8; a++) {
            for (int b = 0; b < a; b++) {
                y.lane(a, b, 1);
            }
        }
        y.set(3, 0, 0);
        y.force(5);
        int[] most = {5, 28, 0, 6, 160, 5};
        for (int what = 0; what < 6; what++) {
            due("at most, " + what, y.count(what), most[what]);
        }
        y.set(3, 0, 0x81);
        due("two PLACES", y.count(2), 2);
    }

    @Holds("BAD.")
    static void promise24_bad() {
        for (int what : new int[] {6, -1, MIN, MAX}) {
            refused("count(" + what + ")", BAD, x -> x.count(what));
        }
    }
}
