// The sentences on weeks: of 'Terms' those of section 2 up to TRULY; promises 9 to 12.
public final class WeekSentences extends Bench {
    public static void main(String[] args) {
        run(WeekSentences.class);
    }

    // ---- Terms: a week in thought

    @Holds("==== 2 IN A WEEK he goes to a PLACE to which he MIGHT GO, or stays, if he MIGHT; so some PLACES become others")
    static void terms_inAWeekHeGoesOneLaneAtMost() {
        DukeIsLost x = duchy("01 12 23");
        due("from 0", x.spread(1, 0), 2);
        due("from 1", x.spread(2, 0), 5);
        due("from 7, without LANES", x.spread(128, 0), 128);
        rule(x, "goes 1;stays 1;sees 1;");
        due("from 0", x.spread(1, 0), 3);
        due("from 1", x.spread(2, 0), 7);
    }

    @Holds("SPREAD of a set of PLACES: all at which he could be then, from any of them")
    static void terms_spreadOfNoPlacesIsNone() {
        DukeIsLost x = duchy("01 12 23 34 45 56 67");
        due("of none", x.spread(0, 0), 0);
        due("of all", x.spread(255, 0), 255);
        due("of the ends", x.spread(129, 0), 2 + 64);
        due("of 0 and 2, from either to 1", x.spread(5, 0), 2 + 8);
        due("of none, without LANES", new DukeIsLost().spread(0, 0), 0);
        due("of all, without LANES", new DukeIsLost().spread(255, 0), 255);
    }

    @Holds("LOOKED: without PLACES at which some FINDER stands and SEES")
    static void terms_lookedTakesWhereOneStandsAndSees() {
        DukeIsLost x = new DukeIsLost();
        due("no FINDERS", x.spread(255, 1), 255);
        x.finder(5, 0, 0);
        due("an HONEST stands at 0", x.spread(255, 1), 255);
        x.finder(2, 0, 7);
        due("a MINTER stands at 7, doesn't see there", x.spread(255, 1), 255);
        x.set(5, 1, 6);
        due("at 6 it does", x.spread(255, 1), 191);
        x.finder(0, 0, 0);
        due("one who sees stands at 0, too", x.spread(255, 1), 190);
        x.finder(0, 0, 0);
        due("and one more", x.spread(255, 1), 190);
        due("of none", x.spread(0, 1), 0);
        due("of those alone", x.spread(65, 1), 0);
    }

    @Holds("A WEEK, in thought: THOUGHT is SPREAD (told as WEEK is), WEEK is 1 more")
    static void terms_inThoughtSpreadIsToldAsWeekIs() {
        DukeIsLost x = duchy("01 12 23");
        x.set(3, 0, 1);
        rule(x, "goes week=0 or week=2;stays 0;sees 1;");
        due("in WEEK 0 he goes", x.run(1, 0), 2);
        due("in WEEK 1 he stays", x.run(2, 0), 2);
        due("in WEEK 2 he goes", x.run(3, 0), 5);
        due("in WEEK 3 he stays", x.run(4, 0), 5);
        due("WEEK itself is as it was", x.told(0, 0), 0);
        // Of week alone: 0 isn't true, 1 is.
        DukeIsLost y = duchy("01 12 23");
        y.set(3, 0, 1);
        rule(y, "goes week;stays week;sees week;");
        due("in WEEK 0 he stays", y.run(1, 0), 1);
        due("in WEEK 1 he goes or stays", y.run(2, 0), 3);
        due("in WEEK 2, too", y.run(3, 0), 7);
    }

    @Holds("then all FINDERS LOOK (told as WEEK is then)")
    static void terms_inThoughtAllLookAsWeekIsThen() {
        DukeIsLost x = new DukeIsLost();
        x.finder(0, 0, 0);
        x.finder(0, 1, 1);
        rule(x, "goes 1;stays 1;sees week=1 and number=0 or week=2 and number=1;");
        due("the first, in WEEK 1", x.run(1, 0), 254);
        due("the other, in WEEK 2", x.run(2, 0), 252);
        x.set(0, 0, 1);
        due("from WEEK 1 on, in WEEK 2", x.run(1, 0), 253);
        x.set(0, 0, 2);
        due("from WEEK 2 on, in WEEK 3", x.run(1, 0), 255);
    }

    @Holds("n WEEKS (0 .. 40), in thought")
    static void terms_nWeeksAre0To40() {
        DukeIsLost x = duchy("01");
        x.set(3, 0, 1);
        due("0 WEEKS", x.run(0, 0), 1);
        due("39 WEEKS", x.run(39, 0), 2);
        due("40 WEEKS", x.run(40, 0), 1);
        due("41 WEEKS", x.run(41, 0), BAD);
        due("-1 WEEKS", x.run(-1, 0), BAD);
        due("drawn, 0 WEEKS", x.drawn(0, 0), 0);
        due("drawn, 39 WEEKS", x.drawn(0, 39), 1);
        due("drawn, 40 WEEKS", x.drawn(0, 40), 0);
        due("drawn, 41 WEEKS", x.drawn(0, 41), BAD);
    }

    @Holds("(there WEEK may pass 999)")
    static void terms_inThoughtWeekMayPass999() {
        DukeIsLost x = duchy("01 12 23 34 45 56 67");
        rule(x, "goes week=1000 or week=1038;stays week<1000;sees week=1039;");
        x.set(0, 0, 999);
        x.set(3, 0, 1);
        x.finder(0, 0, 0);
        x.finder(0, 0, 2);
        due("999", x.run(0, 0), 1);
        due("1000: he stayed in 999", x.run(1, 0), 1);
        due("1001: he went in 1000", x.run(2, 0), 2);
        due("1038", x.run(39, 0), 2);
        due("1039: he went in 1038, and is seen", x.run(40, 0), 0);
        due("in which", x.run(40, 1), 39);
        due("WEEK is 999 yet", x.told(0, 0), 999);
    }

    @Holds("THOUGHT at last; in which (from 0) none is left first; NONE.")
    static void terms_inWhichNoneIsLeftFirst() {
        DukeIsLost x = new DukeIsLost();
        x.finder(0, 0, 0);
        x.set(3, 0, 1);
        due("in the first", x.run(1, 1), 0);
        due("in the first of 40", x.run(40, 1), 0);
        due("of none", x.run(0, 1), NONE);
        x.set(3, 0, 3);
        due("never", x.run(40, 1), NONE);
        due("THOUGHT at last", x.run(40, 0), 2);
        // He is seen in WEEK 40 alone, the last of 40.
        DukeIsLost y = new DukeIsLost();
        rule(y, "goes 1;stays 1;sees week=40;");
        y.finder(0, 0, 0);
        y.set(3, 0, 1);
        due("in the last of 40", y.run(40, 1), 39);
        due("39 are too few", y.run(39, 1), NONE);
        due("THOUGHT at last", y.run(39, 0), 1);
        due("THOUGHT at last", y.run(40, 0), 0);
    }

    // ---- Terms: TRULY

    /** A middle from which he could go to 1, 5, or stay at 3. */
    private static DukeIsLost middle() {
        DukeIsLost x = duchy("13 35");
        rule(x, "goes 1;stays place=3;sees 1;");
        x.set(2, 0, 3);
        return x;
    }

    @Holds("of all PLACES at which he could be from where he is, in order, he is at that of number (z >>> 9) % many")
    static void terms_trulyThatOfNumberZ() {
        int[] to = {1, 3, 5};
        int[] met = new int[3];
        for (int seed = -30; seed < 30; seed++) {
            DukeIsLost x = middle();
            due("week(" + seed + ")", x.week(seed), NONE);
            int number = pick(z(seed), 3);
            met[number]++;
            due("DUKE by " + seed, x.told(0, 2), to[number]);
        }
        due("each of three was met", Math.min(met[0], Math.min(met[1], met[2])) > 0 ? 1 : 0, 1);
    }

    @Holds("he is at that of number (z >>> 9) % many")
    static void terms_trulyOfOneAndOfEight() {
        DukeIsLost one = new DukeIsLost();
        DukeIsLost eight = duchy("01 02 03 04 05 06 07");
        rule(eight, "goes 1;stays 1;sees 1;");
        int met = 0;
        for (int seed = 0; seed < 100; seed++) {
            one.week(seed);
            due("of one, by " + seed, one.told(0, 2), 0);
            eight.set(2, 0, 0);
            eight.week(seed);
            due("of eight, by " + seed, eight.told(0, 2), pick(z(seed), 8));
            met |= 1 << pick(z(seed), 8);
        }
        due("all eight were met", met, 255);
    }

    @Holds("z being SEED * 1103515245 + 12345 (an int)")
    static void terms_zIsAnInt() {
        int[] to = {1, 3, 5};
        int below = 0;
        for (int seed : new int[] {MIN, MIN + 1, -1, 0, 1, 2, 3, MAX - 1, MAX, 1 << 30, 123456789, -987654321}) {
            DukeIsLost x = middle();
            x.week(seed);
            due("DUKE by " + seed, x.told(0, 2), to[pick(z(seed), 3)]);
            below += z(seed) < 0 ? 1 : 0;
        }
        due("some z are below 0", below > 2 ? 1 : 0, 1);
        DukeIsLost x = duchy("01 02 03 04 05 06 07");
        x.week(0);
        due("12345 >>> 9 is 24, of 7 number 3", x.told(0, 2), 4);
        x.set(2, 0, 0);
        x.week(1);
        due("1103527590 >>> 9 is 2155327, of 7 number 6", x.told(0, 2), 7);
        x.set(2, 0, 0);
        x.week(-1);
        due("-1103502900 >>> 9 is 6233328, of 7 number 3", x.told(0, 2), 4);
    }

    @Holds("WEEK is 1 more; THOUGHT is SPREAD as above; if")
    static void terms_trulyWeekIs1MoreAndThoughtIsSpread() {
        DukeIsLost x = duchy("01 12 23");
        x.set(3, 0, 1);
        due("week", x.week(0), NONE);
        due("WEEK", x.told(0, 0), 1);
        due("THOUGHT", x.told(0, 3), 2);
        due("week", x.week(0), NONE);
        due("WEEK", x.told(0, 0), 2);
        due("THOUGHT", x.told(0, 3), 5);
        x.set(3, 0, 0);
        due("week", x.week(0), NONE);
        due("none stays none", x.told(0, 3), 0);
        // Told as WEEK is: in 0 he goes, in 1 he stays; so is what is thought of him.
        DukeIsLost y = duchy("01");
        rule(y, "goes week=0;stays 0;sees 0;");
        y.set(3, 0, 1);
        y.week(0);
        due("DUKE went in 0", y.told(0, 2), 1);
        due("THOUGHT went in 0", y.told(0, 3), 2);
        y.week(0);
        due("DUKE stays in 1", y.told(0, 2), 1);
        due("THOUGHT stays in 1", y.told(0, 3), 2);
    }

    @Holds("if a FINDER stands there and SEES (the first)")
    static void terms_trulyTheFirstWhoSees() {
        DukeIsLost x = duchy("01");
        x.finder(5, 0, 1);
        x.finder(0, 0, 0);
        x.finder(2, 0, 1);
        x.finder(1, 0, 1);
        x.finder(0, 0, 1);
        due("0 and 2 don't see at 1, 1 stands at 0", x.week(0), 3);
        due("FOUND by 3", x.told(3, 7), 1);
        due("not by 4", x.told(4, 7), 0);
        due("at 0", x.week(0), 1);
        due("FOUND by 1", x.told(1, 7), 1);
        // Told as WEEK is then.
        DukeIsLost y = new DukeIsLost();
        rule(y, "goes 1;stays 1;sees week=1;");
        y.finder(0, 0, 0);
        due("in WEEK 1", y.week(0), 0);
        due("in WEEK 2", y.week(0), NONE);
        y.set(0, 0, 0);
        due("in WEEK 1", y.week(0), 0);
    }

    /** It takes more than 512 calls, so what is answered is free; the count stops all the same. */
    @Holds("that one has FOUND him once more (999 at most)")
    static void terms_foundIs999AtMost() {
        DukeIsLost x = new DukeIsLost();
        x.finder(0, 0, 0);
        for (int i = 1; i <= 1002; i++) {
            if (i == 900) {
                x.set(0, 0, 0);
            }
            due("found", x.week(i), 0);
        }
        due("FOUND", x.told(0, 7), 999);
    }

    @Holds("has FOUND him once more")
    static void terms_foundIsCountedForOneAlone() {
        DukeIsLost x = new DukeIsLost();
        x.finder(0, 0, 1);
        x.finder(0, 0, 0);
        x.finder(0, 0, 0);
        for (int i = 1; i <= 100; i++) {
            due("found", x.week(i), 1);
        }
        due("FOUND by one elsewhere", x.told(0, 7), 0);
        due("FOUND", x.told(1, 7), 100);
        due("FOUND by the second there", x.told(2, 7), 0);
    }

    @Holds("THOUGHT is just where he is; else THOUGHT is LOOKED")
    static void terms_trulyThoughtIsJustWhereHeIs() {
        DukeIsLost x = duchy("01 12");
        x.finder(0, 0, 1);
        due("found at 1", x.week(0), 0);
        due("THOUGHT", x.told(0, 3), 2);
        // Found where he was not thought to be.
        DukeIsLost y = new DukeIsLost();
        y.finder(0, 0, 0);
        y.set(3, 0, 128);
        due("found at 0", y.week(0), 0);
        due("THOUGHT", y.told(0, 3), 1);
        y.set(3, 0, 0);
        due("found, none thought of", y.week(0), 0);
        due("THOUGHT", y.told(0, 3), 1);
        // Not found: those places go at which one looked.
        y.set(5, 0, 7);
        y.set(3, 0, 255);
        due("not found", y.week(0), NONE);
        due("THOUGHT", y.told(0, 3), 127);
        y.set(3, 0, 128);
        due("not found", y.week(0), NONE);
        due("none is left", y.told(0, 3), 0);
    }

    // ---- Promise 9

    @Holds("SPREAD of a set of PLACES (what 0), LOOKED of it (1), both (2: SPREAD, then LOOKED, WEEK as it is)")
    static void promise9_bothWithWeekAsItIs() {
        DukeIsLost x = duchy("01 12");
        x.finder(0, 0, 1);
        rule(x, "goes 1;stays 0;sees week=3;");
        x.set(0, 0, 3);
        due("SPREAD", x.spread(1, 0), 2);
        due("LOOKED", x.spread(3, 1), 1);
        due("both", x.spread(1, 2), 0);
        due("both, of 1", x.spread(2, 2), 5);
        x.set(0, 0, 2);
        due("WEEK isn't 1 more", x.spread(1, 2), 2);
        due("THOUGHT is as it was", x.told(0, 3), 255);
        due("WEEK is as it was", x.told(0, 0), 2);
        x.set(0, 0, 999);
        due("in WEEK 999", x.spread(1, 2), 2);
    }

    @Holds("BAD: set (0 .. 255)")
    static void promise9_badSet() {
        DukeIsLost y = new DukeIsLost();
        for (int what = 0; what < 3; what++) {
            due("set 0", y.spread(0, what), 0);
            due("set 255", y.spread(255, what), 255);
            int w = what;
            for (int set : new int[] {256, -1, 512, MIN, MAX}) {
                refused("spread(" + set + ", " + what + ")", BAD, x -> x.spread(set, w));
            }
        }
    }

    @Holds("(0 .. 255), what.")
    static void promise9_badWhat() {
        for (int what : new int[] {3, -1, MIN, MAX}) {
            refused("spread(255, " + what + ")", BAD, x -> x.spread(255, what));
        }
    }

    // ---- Promise 10

    @Holds("TRULY: who FOUND him (NONE).")
    static void promise10_whoFoundHim() {
        DukeIsLost x = new DukeIsLost();
        due("no FINDERS", x.week(0), NONE);
        for (int i = 0; i < 4; i++) {
            x.finder(5, 0, 0);
        }
        due("four HONEST ones", x.week(0), NONE);
        x.finder(0, 0, 0);
        due("the last", x.week(0), 4);
        x.set(5, 4, 1);
        due("elsewhere", x.week(0), NONE);
    }

    @Holds("STATE: WEEK is 999.")
    static void promise10_stateInTheLastWeek() {
        DukeIsLost x = duchy("01");
        x.finder(0, 0, 1);
        x.set(0, 0, 998);
        due("in 998", x.week(0), 0);
        due("WEEK", x.told(0, 0), 999);
        due("in 999", x.week(0), STATE);
        due("WEEK", x.told(0, 0), 999);
        due("DUKE", x.told(0, 2), 1);
        due("THOUGHT", x.told(0, 3), 2);
        due("FOUND", x.told(0, 7), 1);
        refused("week(0)", STATE, Bench::full, y -> y.week(0));
        refused("week(MIN)", STATE, Bench::full, y -> y.week(MIN));
    }

    // ---- Promise 11

    @Holds("A FINDER goes to a PLACE BESIDE, truly: where one stood.")
    static void promise11_whereOneStood() {
        DukeIsLost x = duchy("07 67");
        x.finder(0, 0, 0);
        x.finder(0, 0, 0);
        due("to 7", x.go(0, 7), 0);
        due("to 6", x.go(0, 6), 7);
        due("AT", x.told(0, 5), 6);
        due("the other", x.told(1, 5), 0);
        due("WEEK", x.told(0, 0), 0);
        due("FOUND", x.told(0, 7), 0);
        due("THOUGHT", x.told(0, 3), 255);
        // By lanes, whatever the rule says of him.
        rule(x, "goes 0;stays 0;sees 0;");
        due("to 7", x.go(0, 7), 6);
    }

    @Holds("BAD: none such")
    static void promise11_badNoneSuch() {
        for (int one : new int[] {3, 5, -1, MIN, MAX}) {
            refused("go(" + one + ", 1)", BAD, x -> x.go(one, 1));
        }
        for (int on : new int[] {8, -1, 32, MIN, MAX}) {
            refused("go(0, " + on + ")", BAD, x -> x.go(0, on));
        }
        due("there is none yet", duchy("01").go(0, 1), BAD);
    }

    @Holds("STATE: it isn't BESIDE.")
    static void promise11_stateIfItIsNotBeside() {
        refused("two LANES away", STATE, x -> x.go(0, 4));
        refused("where one stands", STATE, x -> x.go(0, 2));
        DukeIsLost x = new DukeIsLost();
        x.finder(0, 0, 7);
        for (int p = 0; p < 8; p++) {
            due("without LANES, to " + p, x.go(0, p), STATE);
        }
        x.lane(7, 0, 1);
        x.lane(7, 0, 0);
        due("a LANE that went", x.go(0, 0), STATE);
    }

    // ---- Promise 12

    @Holds("n WEEKS: THOUGHT at last (what 0)")
    static void promise12_thoughtAtLast() {
        DukeIsLost x = duchy("01 12 23 34");
        x.finder(0, 0, 1);
        x.finder(0, 0, 3);
        x.set(3, 0, 31);
        due("0 WEEKS", x.run(0, 0), 31);
        due("1 WEEK", x.run(1, 0), 21);
        due("2 WEEKS", x.run(2, 0), 0);
        due("40 WEEKS", x.run(40, 0), 0);
        due("THOUGHT itself", x.told(0, 3), 31);
        due("WEEK itself", x.told(0, 0), 0);
    }

    @Holds("in which none is left first (1; NONE)")
    static void promise12_inWhichNoneIsLeftFirst() {
        DukeIsLost x = duchy("01 12 23 34");
        x.finder(0, 0, 1);
        x.finder(0, 0, 3);
        x.set(3, 0, 31);
        due("0 WEEKS", x.run(0, 1), NONE);
        due("1 WEEK", x.run(1, 1), NONE);
        due("2 WEEKS", x.run(2, 1), 1);
        due("40 WEEKS", x.run(40, 1), 1);
        x.set(3, 0, 0);
        due("none from the first on", x.run(1, 1), 0);
        due("none from the first on", x.run(40, 1), 0);
        due("never", new DukeIsLost().run(40, 1), NONE);
    }

    @Holds("how many PLACES that is, together, over all of them (2)")
    static void promise12_together() {
        DukeIsLost x = new DukeIsLost();
        due("0 WEEKS", x.run(0, 2), 0);
        due("1 WEEK", x.run(1, 2), 8);
        due("40 WEEKS of 8", x.run(40, 2), 320);
        x.set(3, 0, 0);
        due("none", x.run(40, 2), 0);
        DukeIsLost y = duchy("01 12 23 34");
        y.finder(0, 0, 1);
        y.finder(0, 0, 3);
        y.set(3, 0, 31);
        due("3, then none", y.run(40, 2), 3);
        DukeIsLost w = duchy("01 02 03");
        w.set(3, 0, 1);
        due("3, 1, 3", w.run(3, 2), 7);
    }

    @Holds("BAD.")
    static void promise12_bad() {
        for (int what = 0; what < 3; what++) {
            int w = what;
            for (int n : new int[] {41, -1, MIN, MAX}) {
                refused("run(" + n + ", " + w + ")", BAD, x -> x.run(n, w));
            }
        }
        for (int what : new int[] {3, -1, MIN, MAX}) {
            refused("run(0, " + what + ")", BAD, x -> x.run(0, what));
            refused("run(40, " + what + ")", BAD, x -> x.run(40, what));
        }
    }
}
