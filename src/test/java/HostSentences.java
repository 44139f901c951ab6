// The sentences on sheets and what is taken for another thing: of 'Terms' section 3; promises 25 to 29.
public final class HostSentences extends Bench {
    public static void main(String[] args) {
        run(HostSentences.class);
    }

    // ---- Terms: SHEETS

    @Holds("==== 3 SHEETS 0 .. 3 are rows of numbers")
    static void terms_sheetsAre0To3() {
        DukeIsLost x = new DukeIsLost();
        for (int sheet = 0; sheet < 4; sheet++) {
            due("sheet " + sheet, x.sheet(sheet, INTS, 10 + sheet), 1);
        }
        for (int sheet = 0; sheet < 4; sheet++) {
            due("size of " + sheet, sizeOf(x, sheet), 10 + sheet);
        }
        for (int sheet : new int[] {4, -1}) {
            due("sheet " + sheet, x.sheet(sheet, INTS, 1), BAD);
            due("cell of " + sheet, x.cell(sheet, 0, 0), BAD);
            due("copy from " + sheet, x.copy(sheet, 0, 0, 0, 0), BAD);
            due("copy to " + sheet, x.copy(0, 0, sheet, 0, 0), BAD);
            due("finders by " + sheet, x.finders(sheet, INTS, 0, 0), BAD);
            due("tells of " + sheet, x.tells(sheet, 0), BAD);
            due("film of " + sheet, x.film(sheet, 0, 0), BAD);
        }
    }

    @Holds("or missing (as all are at first)")
    static void terms_allSheetsAreMissingAtFirst() {
        DukeIsLost x = new DukeIsLost();
        for (int sheet = 0; sheet < 4; sheet++) {
            due("cell", x.cell(sheet, 0, 0), NOTHING);
            due("copy", x.copy(sheet, 0, sheet, 0, 0), NOTHING);
            due("tells", x.tells(sheet, 0), NOTHING);
            for (int sort = 0; sort < 3; sort++) {
                due("finders", x.finders(sheet, sort, 0, 0), NOTHING);
            }
        }
    }

    @Holds("of sort 0 bytes, 1 shorts, 2 ints")
    static void terms_threeSorts() {
        // 256 + 1 of bytes is 1, 65536 + 1 of shorts; an int is what it is.
        int[] v = {257, 65537, 1};
        for (int sort = 0; sort < 3; sort++) {
            DukeIsLost x = new DukeIsLost();
            row(x, 0, sort, 0, 0, 0);
            for (int i = 0; i < 3; i++) {
                x.cell(0, i, v[i]);
            }
            dueText("of sort " + sort, placesOf(x, 0), sort == 0 ? "111" : sort == 1 ? "-11" : "--1");
        }
        due("no sort 3", new DukeIsLost().sheet(0, 3, 1), BAD);
    }

    // ---- Promise 25

    @Holds("A SHEET becomes a row of n of a sort, all 0")
    static void promise25_aRowOfNAll0() {
        for (int sort = 0; sort < 3; sort++) {
            DukeIsLost x = new DukeIsLost();
            row(x, 0, sort, 1, 2, 3, 4, 5);
            due("sheet", x.sheet(0, sort, 7), 1);
            due("size", sizeOf(x, 0), 7);
            due("sort", sortOf(x, 0), sort);
            dueText("all 0", placesOf(x, 0), "0000000");
            due("the last item", x.cell(0, 6, 0), 1);
            due("one behind", x.cell(0, 7, 0), OUTSIDE);
        }
    }

    @Holds("a row of n of a sort")
    static void promise25_of0AndOf40() {
        DukeIsLost x = new DukeIsLost();
        for (int sort = 0; sort < 3; sort++) {
            due("n 0", x.sheet(sort, sort, 0), 1);
            due("no item", x.cell(sort, 0, 0), OUTSIDE);
            due("but not missing", sortOf(x, sort), sort);
            due("n 40", x.sheet(sort, sort, 40), 1);
            due("the last", x.cell(sort, 39, 0), 1);
            due("one behind", x.cell(sort, 40, 0), OUTSIDE);
            due("n 1", x.sheet(sort, sort, 1), 1);
            due("fewer than it had", x.cell(sort, 1, 0), OUTSIDE);
        }
    }

    @Holds("or missing (sort -1: n does not matter): 1.")
    static void promise25_missingWhateverNIs() {
        DukeIsLost x = new DukeIsLost();
        for (int n : new int[] {0, -1, 41, MIN, MAX}) {
            x.sheet(0, BYTES, 3);
            due("n " + n, x.sheet(0, MISSING, n), 1);
            due("missing", x.cell(0, 0, 0), NOTHING);
            due("missing already, n " + n, x.sheet(0, MISSING, n), 1);
        }
        x.sheet(1, BYTES, 3);
        x.sheet(0, MISSING, 0);
        due("the others stay", x.cell(1, 2, 0), 1);
    }

    @Holds("BAD: no such SHEET")
    static void promise25_badSheet() {
        for (int sheet : new int[] {4, -1, MIN, MAX}) {
            refused("sheet(" + sheet + ", 0, 1)", BAD, x -> x.sheet(sheet, 0, 1));
            refused("sheet(" + sheet + ", -1, 1)", BAD, x -> x.sheet(sheet, -1, 1));
        }
    }

    @Holds("BAD: no such SHEET, sort")
    static void promise25_badSort() {
        for (int sort : new int[] {3, -2, MIN, MAX}) {
            refused("sheet(0, " + sort + ", 1)", BAD, x -> x.sheet(0, sort, 1));
            refused("sheet(0, " + sort + ", -1), ahead of -14", BAD, x -> x.sheet(0, sort, -1));
        }
    }

    @Holds("n above 40")
    static void promise25_badNAbove40() {
        for (int n : new int[] {41, 100, MAX}) {
            for (int sort = 0; sort < 3; sort++) {
                int s = sort;
                refused("sheet(0, " + s + ", " + n + ")", BAD, x -> x.sheet(0, s, n));
                refused("sheet(3, " + s + ", " + n + "), a missing one", BAD, x -> x.sheet(3, s, n));
            }
        }
    }

    @Holds("-14.")
    static void promise25_aSizeBelow0() {
        for (int n : new int[] {-1, -41, MIN}) {
            for (int sort = 0; sort < 3; sort++) {
                int s = sort;
                refused("sheet(0, " + s + ", " + n + ")", SMALL, x -> x.sheet(0, s, n));
                refused("sheet(3, " + s + ", " + n + "), a missing one", SMALL, x -> x.sheet(3, s, n));
            }
        }
    }

    // ---- Promise 26

    @Holds("Item i of a SHEET becomes v")
    static void promise26_thatItemAlone() {
        for (int sort = 0; sort < 3; sort++) {
            DukeIsLost x = new DukeIsLost();
            x.sheet(0, sort, 5);
            x.sheet(1, sort, 5);
            due("the first", x.cell(0, 0, 7), 1);
            due("the last", x.cell(0, 4, 6), 1);
            due("one between", x.cell(0, 2, 5), 1);
            due("once more", x.cell(0, 2, 4), 1);
            dueText("these alone", placesOf(x, 0), "70406");
            dueText("of that SHEET alone", placesOf(x, 1), "00000");
        }
    }

    @Holds("(of bytes, shorts its lowest 8, 16 bits): 1.")
    static void promise26_itsLowestBits() {
        DukeIsLost x = pair();
        // -1 tells that he wasn't seen: of bytes 255 is so, of shorts 65535.
        int[][] minus1 = {{255, -1, -257, 511, 65535}, {65535, -1, -65537, 131071}, {-1}};
        int[][] not = {{-2, 254, 127, 128, 256 - 2}, {255, 511, 65534, 32767, 32768}, {255, 65535, MAX, MIN}};
        for (int sort = 0; sort < 3; sort++) {
            for (int v : minus1[sort]) {
                row(x, 0, sort, v);
                due("-1 is " + v + " of sort " + sort, x.tells(0, 2), NONE);
            }
            for (int v : not[sort]) {
                row(x, 0, sort, v);
                due("-1 isn't " + v + " of sort " + sort, x.tells(0, 2), 0);
            }
        }
        row(x, 0, BYTES, 256, 257, 263, -249, MIN + 3);
        dueText("bytes", placesOf(x, 0), "01773");
        row(x, 0, SHORTS, 65536, 65537, -65529, 256, MIN + 3);
        dueText("shorts", placesOf(x, 0), "017-3");
        row(x, 0, INTS, 7, 256, 65536, MIN + 3, 0);
        dueText("ints", placesOf(x, 0), "7---0");
    }

    private static DukeIsLost pair() {
        DukeIsLost x = duchy("01");
        x.finder(0, 0, 1);
        return x;
    }

    @Holds("BAD: no such SHEET")
    static void promise26_badSheet() {
        for (int sheet : new int[] {4, -1, MIN, MAX}) {
            refused("cell(" + sheet + ", 0, 0)", BAD, x -> x.cell(sheet, 0, 0));
            refused("cell(" + sheet + ", -1, 0)", BAD, x -> x.cell(sheet, -1, 0));
        }
    }

    @Holds("-11; -12.")
    static void promise26_nothingIfItIsMissing() {
        for (int i : new int[] {0, -1, 40, MIN, MAX}) {
            refused("cell(3, " + i + ", 0)", NOTHING, x -> x.cell(3, i, 0));
        }
    }

    @Holds("-12.")
    static void promise26_outside() {
        for (int i : new int[] {-1, MIN, MAX}) {
            for (int sheet = 0; sheet < 3; sheet++) {
                int s = sheet;
                refused("cell(" + s + ", " + i + ", 1)", OUTSIDE, x -> x.cell(s, i, 1));
            }
        }
        refused("one behind 2 items", OUTSIDE, x -> x.cell(0, 2, 1));
        refused("one behind 31 items", OUTSIDE, x -> x.cell(1, 31, 1));
        refused("one behind 3 items", OUTSIDE, x -> x.cell(2, 3, 1));
        DukeIsLost y = new DukeIsLost();
        y.sheet(0, BYTES, 0);
        due("of no items", y.cell(0, 0, 0), OUTSIDE);
    }

    // ---- Promise 27

    @Holds("n numbers of a SHEET, from item i on, come to another one's item j on")
    static void promise27_nNumbersCome() {
        for (int sort = 0; sort < 3; sort++) {
            DukeIsLost x = new DukeIsLost();
            row(x, 0, sort, 1, 2, 3, 4, 5);
            row(x, 1, sort, 7, 7, 7, 7);
            due("two of them", x.copy(0, 2, 1, 1, 2), 2);
            dueText("to", placesOf(x, 1), "7347");
            dueText("from", placesOf(x, 0), "12345");
            due("none", x.copy(0, 0, 1, 0, 0), 0);
            due("none, behind both ends", x.copy(0, 5, 1, 4, 0), 0);
            dueText("as it was", placesOf(x, 1), "7347");
            due("all there is room for", x.copy(0, 1, 1, 0, 4), 4);
            dueText("to", placesOf(x, 1), "2345");
        }
        DukeIsLost y = new DukeIsLost();
        y.sheet(0, INTS, 40);
        y.sheet(1, INTS, 40);
        due("40", y.copy(0, 0, 1, 0, 40), 40);
        due("41", y.copy(0, 0, 1, 0, 41), OUTSIDE);
    }

    @Holds("(as they were): n.")
    static void promise27_ontoItselfAsTheyWere() {
        DukeIsLost x = new DukeIsLost();
        row(x, 0, BYTES, 1, 2, 3, 4, 5);
        due("up by 1", x.copy(0, 0, 0, 1, 4), 4);
        dueText("as they were", placesOf(x, 0), "11234");
        row(x, 0, BYTES, 1, 2, 3, 4, 5);
        due("down by 1", x.copy(0, 1, 0, 0, 4), 4);
        dueText("as they were", placesOf(x, 0), "23455");
        row(x, 0, BYTES, 1, 2, 3, 4, 5);
        due("up by 2", x.copy(0, 0, 0, 2, 3), 3);
        dueText("as they were", placesOf(x, 0), "12123");
        due("where they are", x.copy(0, 0, 0, 0, 5), 5);
        dueText("as they were", placesOf(x, 0), "12123");
    }

    @Holds("BAD: no such SHEET")
    static void promise27_badSheet() {
        for (int sheet : new int[] {4, -1, MIN, MAX}) {
            refused("copy from " + sheet, BAD, x -> x.copy(sheet, 0, 0, 0, 0));
            refused("copy to " + sheet, BAD, x -> x.copy(0, 0, sheet, 0, 0));
            refused("copy from a missing one to " + sheet, BAD, x -> x.copy(3, 0, sheet, 0, 0));
            refused("copy to a missing one from " + sheet, BAD, x -> x.copy(sheet, 0, 3, 0, 0));
        }
    }

    @Holds("-11")
    static void promise27_nothingIfOneIsMissing() {
        refused("copy from it", NOTHING, x -> x.copy(3, 0, 0, 0, 0));
        refused("copy to it", NOTHING, x -> x.copy(0, 0, 3, 0, 0));
        refused("copy onto itself", NOTHING, x -> x.copy(3, 0, 3, 0, 0));
        refused("copy from it, n below 0", NOTHING, x -> x.copy(3, 0, 0, 0, -1));
        refused("copy to it, outside", NOTHING, x -> x.copy(0, 40, 3, 40, 40));
    }

    @Holds("-13: they are of unlike sorts")
    static void promise27_unlikeSorts() {
        for (int from = 0; from < 3; from++) {
            for (int to = 0; to < 3; to++) {
                int i = from, j = to;
                if (from != to) {
                    refused("copy(" + i + " to " + j + ")", OTHER, x -> x.copy(i, 0, j, 0, 1));
                    refused("copy(" + i + " to " + j + "), n 0", OTHER, x -> x.copy(i, 0, j, 0, 0));
                    refused("copy(" + i + " to " + j + "), outside", OTHER, x -> x.copy(i, -1, j, 40, MAX));
                }
            }
        }
    }

    @Holds("-12 (also with n below 0).")
    static void promise27_outside() {
        // Sheet 0 has 2 items.
        refused("n -1", OUTSIDE, x -> x.copy(0, 0, 0, 0, -1));
        refused("n MIN", OUTSIDE, x -> x.copy(0, 0, 0, 0, MIN));
        refused("n MIN from 1", OUTSIDE, x -> x.copy(0, 1, 0, 1, MIN));
        refused("n 3", OUTSIDE, x -> x.copy(0, 0, 0, 0, 3));
        refused("n MAX", OUTSIDE, x -> x.copy(0, 0, 0, 0, MAX));
        refused("n MAX from 1", OUTSIDE, x -> x.copy(0, 1, 0, 1, MAX));
        refused("from 1, n 2", OUTSIDE, x -> x.copy(0, 1, 0, 0, 2));
        refused("to 1, n 2", OUTSIDE, x -> x.copy(0, 0, 0, 1, 2));
        refused("from -1", OUTSIDE, x -> x.copy(0, -1, 0, 0, 1));
        refused("to -1", OUTSIDE, x -> x.copy(0, 0, 0, -1, 1));
        refused("from -1, n 0", OUTSIDE, x -> x.copy(0, -1, 0, 0, 0));
        refused("to -1, n 0", OUTSIDE, x -> x.copy(0, 0, 0, -1, 0));
        refused("from 3, n 0", OUTSIDE, x -> x.copy(0, 3, 0, 0, 0));
        refused("to 3, n 0", OUTSIDE, x -> x.copy(0, 0, 0, 3, 0));
        refused("from MAX", OUTSIDE, x -> x.copy(0, MAX, 0, 0, 1));
        refused("to MAX", OUTSIDE, x -> x.copy(0, 0, 0, MAX, 1));
        refused("from MIN", OUTSIDE, x -> x.copy(0, MIN, 0, 0, 1));
        refused("to MIN", OUTSIDE, x -> x.copy(0, 0, 0, MIN, 1));
        refused("from MAX, n MAX", OUTSIDE, x -> x.copy(0, MAX, 0, MAX, MAX));
        refused("from MIN, n MIN", OUTSIDE, x -> x.copy(0, MIN, 0, MIN, MIN));
    }

    // ---- Promise 28

    @Holds("FINDERS by a SHEET that is taken for one of a sort: from one on, three by three (as of finder())")
    static void promise28_threeByThree() {
        for (int sort = 0; sort < 3; sort++) {
            DukeIsLost x = new DukeIsLost();
            row(x, 0, sort, 9, 1, 2, 3, 5, 9, 7);
            due("from 1 on, two", x.finders(0, sort, 1, 2), 2);
            due("KIND", x.told(0, 6), 1);
            due("NUMBER", x.told(0, 4), 2);
            due("AT", x.told(0, 5), 3);
            due("KIND", x.told(1, 6), 5);
            due("NUMBER", x.told(1, 4), 9);
            due("AT", x.told(1, 5), 7);
            due("FOUND", x.told(1, 7), 0);
            due("from the last three on", x.finders(0, sort, 4, 1), 1);
        }
    }

    @Holds("n of them (0 .. 5)")
    static void promise28_from0To5OfThem() {
        DukeIsLost x = new DukeIsLost();
        x.sheet(0, BYTES, 40);
        due("0", x.finders(0, BYTES, 0, 0), 0);
        due("none came", x.count(0), 0);
        due("5", x.finders(0, BYTES, 0, 5), 5);
        due("five came", x.count(0), 5);
        due("6", x.finders(0, BYTES, 0, 6), BAD);
        due("-1", x.finders(0, BYTES, 0, -1), BAD);
    }

    @Holds("how many came (others are left out)")
    static void promise28_othersAreLeftOut() {
        DukeIsLost x = new DukeIsLost();
        row(x, 0, INTS, 6, 0, 0, 0, 10, 0, 0, 0, 8, -1, 0, 0, 3, 4, 5);
        due("four are none", x.finders(0, INTS, 0, 5), 1);
        due("the last came", x.told(0, 6), 3);
        due("one", x.count(0), 1);
        row(x, 1, INTS, 0, 0, -1, 0, -1, 0);
        due("none", x.finders(1, INTS, 0, 2), 0);
        x.sheet(2, INTS, 15);
        due("four more have room", x.finders(2, INTS, 0, 5), 4);
        due("five", x.count(0), 5);
        due("no room", x.finders(2, INTS, 0, 5), 0);
        due("nor for a bad one", x.finders(0, INTS, 0, 5), 0);
    }

    @Holds("BAD: no such SHEET")
    static void promise28_badSheet() {
        for (int sheet : new int[] {4, -1, MIN, MAX}) {
            refused("finders(" + sheet + ", 0, 0, 0)", BAD, x -> x.finders(sheet, 0, 0, 0));
        }
    }

    @Holds("BAD: no such SHEET, sort")
    static void promise28_badSort() {
        for (int sort : new int[] {3, -1, MIN, MAX}) {
            refused("finders(0, " + sort + ", 0, 0)", BAD, x -> x.finders(0, sort, 0, 0));
            refused("finders(3, " + sort + ", 0, 0), a missing one", BAD, x -> x.finders(3, sort, 0, 0));
        }
    }

    @Holds("BAD: no such SHEET, sort, n")
    static void promise28_badN() {
        for (int n : new int[] {6, -1, MIN, MAX}) {
            refused("finders(1, 1, 0, " + n + ")", BAD, x -> x.finders(1, 1, 0, n));
            refused("finders(1, 0, 0, " + n + "), of another sort", BAD, x -> x.finders(1, 0, 0, n));
            refused("finders(3, 0, 0, " + n + "), a missing one", BAD, x -> x.finders(3, 0, 0, n));
        }
    }

    @Holds("-13; -11; -12")
    static void promise28_anotherSort() {
        for (int sheet = 0; sheet < 3; sheet++) {
            for (int sort = 0; sort < 3; sort++) {
                int i = sheet, j = sort;
                if (sheet != sort) {
                    refused("finders(" + i + ", " + j + ", 0, 1)", OTHER, x -> x.finders(i, j, 0, 1));
                    refused("finders(" + i + ", " + j + ", 0, 0)", OTHER, x -> x.finders(i, j, 0, 0));
                    refused("finders(" + i + ", " + j + ", -1, 1)", OTHER, x -> x.finders(i, j, -1, 1));
                }
            }
        }
    }

    @Holds("-11; -12")
    static void promise28_nothingIfItIsMissing() {
        for (int sort = 0; sort < 3; sort++) {
            int s = sort;
            refused("finders(3, " + s + ", 0, 0)", NOTHING, x -> x.finders(3, s, 0, 0));
            refused("finders(3, " + s + ", 0, 1)", NOTHING, x -> x.finders(3, s, 0, 1));
            refused("finders(3, " + s + ", -1, 1)", NOTHING, x -> x.finders(3, s, -1, 1));
        }
    }

    @Holds("-12: what stood ahead came.")
    static void promise28_whatStoodAheadCame() {
        DukeIsLost x = new DukeIsLost();
        row(x, 0, BYTES, 1, 2, 3, 6, 6, 6, 3, 4, 5, 0, 0);
        due("of four the last is outside", x.finders(0, BYTES, 0, 4), OUTSIDE);
        due("two came, one was left out", x.count(0), 2);
        due("the first", x.told(0, 6), 1);
        due("the third", x.told(1, 6), 3);
        due("from 8, the last three items, and more", x.finders(0, BYTES, 8, 2), OUTSIDE);
        due("an HONEST came", x.told(2, 6), 5);
        due("from 9, two items", x.finders(0, BYTES, 9, 1), OUTSIDE);
        for (int from : new int[] {-1, -3, 11, 12, MIN, MIN + 3, MAX, MAX - 3, MAX - 12}) {
            due("from " + from, x.finders(0, BYTES, from, 5), OUTSIDE);
        }
        due("none more came", x.count(0), 3);
        x.sheet(1, BYTES, 2);
        due("of two items", x.finders(1, BYTES, 0, 1), OUTSIDE);
        due("of no items", x.finders(2, BYTES, 0, 1), NOTHING);
        x.sheet(1, BYTES, 14);
        due("four of five, two of them have room", x.finders(1, BYTES, 0, 5), OUTSIDE);
        due("five", x.count(0), 5);
        due("FULL, and outside", x.finders(1, BYTES, 0, 5), OUTSIDE);
    }

    // ---- Promise 29

    @Holds("A FINDER taken for one of KIND k (0 .. 5), or one under that one (also by others between): the NUMBER.")
    static void promise29_underAlsoByOthersBetween() {
        String[] above = {"0", "01", "02", "013", "024", "05"};
        for (int kind = 0; kind < 6; kind++) {
            for (int number : new int[] {0, 9}) {
                DukeIsLost x = new DukeIsLost();
                x.finder(5 - kind, 5, 0);
                x.finder(kind, number, 0);
                for (int k = 0; k < 6; k++) {
                    boolean is = above[kind].indexOf((char) ('0' + k)) >= 0;
                    due("KIND " + kind + " for " + k, x.taken(1, k), is ? number : OTHER);
                }
            }
        }
    }

    @Holds("BAD: k")
    static void promise29_badK() {
        for (int k : new int[] {6, -1, MIN, MAX}) {
            refused("taken(0, " + k + ")", BAD, x -> x.taken(0, k));
            refused("taken(5, " + k + "), none such", BAD, x -> x.taken(5, k));
        }
    }

    @Holds("-11: no such FINDER")
    static void promise29_nothingIfThereIsNoSuchFinder() {
        for (int one : new int[] {3, 5, -1, MIN, MAX}) {
            for (int k = 0; k < 6; k++) {
                int kind = k;
                refused("taken(" + one + ", " + k + ")", NOTHING, x -> x.taken(one, kind));
            }
        }
        due("there is none yet", new DukeIsLost().taken(0, 0), NOTHING);
    }

    @Holds("-13.")
    static void promise29_anotherKind() {
        refused("a FINDER for a FARMER", OTHER, x -> x.taken(0, 1));
        refused("a FARMER for a DOG, which is under it", OTHER, x -> x.taken(1, 3));
        refused("a DOG for a MINTER", OTHER, x -> x.taken(2, 2));
        refused("a DOG for a CLERK", OTHER, x -> x.taken(2, 4));
        refused("a DOG for an HONEST", OTHER, x -> x.taken(2, 5));
    }
}
