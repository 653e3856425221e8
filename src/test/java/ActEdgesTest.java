/** Terms 5 and promises 35 to 43: each sentence that names a boundary case. */
public final class ActEdgesTest {
    private static final int BAD = SameStar.BAD;
    private static final int LEAST = Integer.MIN_VALUE, MOST = Integer.MAX_VALUE;
    private static final int NOTHING_THERE = -11, OTHER_KIND = -12, NO_SUCH_PLACE = -13, BELOW_ZERO = -14;
    private static final int BYTES = 0, SHORTS = 1, INTS = 2, LONGS = 3, BOOLEANS = 4;
    private static final int DATES = 0, PLACES = 1, FITS = 2, TELLS = 3;
    private static final int[] NO_PAGES = {LEAST, -1, 6, MOST};

    public static void main(String[] args) throws Exception {
        Edges.runAll(ActEdgesTest.class);
    }

    private static void due(String call, long got, long want) {
        Edges.due(call, got, want);
    }

    /** Words 0 to 7 of kinds 0 to 7, PLACED in lodge 1, MEASURED in lodge 23, COPIED of word 0. */
    private static SameStar wordsOfAllKinds() {
        SameStar x = new SameStar();
        int[] more = {0, 1, 1, 0, 0, 0, 23, 0};
        for (int kind = 0; kind < 8; kind++) due("word of kind " + kind, x.word(100 * kind + 99, 0, more[kind]), kind);
        return x;
    }

    private static void trace(SameStar x, int... wants) {
        for (int i = 0; i < wants.length; i++) due("trace " + i, x.trace(i), wants[i]);
        due("trace beyond the last", x.trace(wants.length), BAD);
        due("how many ran", x.count(6), wants.length);
    }

    // ---- terms 5: acts

    @Says("with x (an int that wraps)")
    static void actsWrap() {
        SameStar x = wordsOfAllKinds();
        x.word(99, 0, 0);
        due("dates of word 8", x.act(8, DATES, MOST), LEAST + 7);
        due("dates of word 0", x.act(0, DATES, MOST), MOST);
        due("places of word 0", x.act(0, PLACES, 1 << 30), LEAST);
        due("places of word 0", x.act(0, PLACES, LEAST), 0);
        due("places, and a lodge", x.act(1, PLACES, (1 << 30) - 2), MOST);
        due("places, and a lodge more", x.act(1, PLACES, (1 << 30) - 1), LEAST + 1);
        due("fits three times", x.act(2, FITS, MOST ^ 2), 3 * MOST);
        due("dates less 1", x.act(3, DATES, MOST - 2), MOST);
        due("fits turned", x.act(4, FITS, LEAST ^ 4), LEAST);
        due("tells of word 0", x.act(0, TELLS, (1 << 30) - 1), MOST);
        due("tells of word 0, one more", x.act(0, TELLS, 1 << 30), LEAST + 1);
        due("dates of one more", x.act(7, DATES, MOST), LEAST + 7);
    }

    @Says("0 dates, 1 places, 2 fits, 3 tells")
    static void valuesOfKinds() {
        SameStar x = wordsOfAllKinds();
        int[][] wants = {
            // dates, places, fits and tells of 5, by kinds; the numbers are the kinds
            {5, 10, 5, 11}, {6, 13, 4, 13}, {7, 14, 21, 23}, {7, 14, 6, 16}, {9, 18, -1, 13}, {10, 20, 0, 31}, {11, 41, 3, 48}, {13, 26, 6, 88},
        };
        for (int kind = 0; kind < 8; kind++) {
            for (int act = 0; act < 4; act++) due("act " + act + " of kind " + kind, x.act(kind, act, 5), wants[kind][act]);
        }
    }

    @Says("n its number")
    static void numbersOfWords() {
        SameStar x = new SameStar();
        for (int i = 0; i < 150; i++) x.word(99, 0, 0);
        for (int word : new int[] {0, 1, 149}) {
            due("dates of " + word, x.act(word, DATES, 0), word);
            due("fits of " + word, x.act(word, FITS, 0), word);
        }
    }

    @Says("the body of its own KIND, or of the next KIND above that has one")
    static void bodiesOfKinds() {
        SameStar x = wordsOfAllKinds();
        int[][] dates = {{1}, {1}, {1}, {40, 1}, {1}, {1}, {1}, {80, 1}};
        int[][] fits = {{11}, {11}, {30, 11}, {11}, {50, 11}, {11}, {11}, {30, 11}};
        for (int kind = 0; kind < 8; kind++) {
            x.act(kind, DATES, 5);
            trace(x, dates[kind]);
            x.act(kind, FITS, 5);
            trace(x, fits[kind]);
        }
        int[][] places = {{10, 1}, {20, 10, 1}, {10, 1}, {10, 40, 1}, {10, 1}, {10, 1}, {70, 20, 10, 1, 11}, {10, 80, 1}};
        for (int kind = 0; kind < 8; kind++) {
            x.act(kind, PLACES, 5);
            trace(x, places[kind]);
        }
    }

    @Says("super: from the KIND above the body's on")
    static void bodiesAbove() {
        SameStar x = wordsOfAllKinds();
        x.act(6, TELLS, 5);
        trace(x, 2, 70, 20, 10, 1, 11, 11);
        x.act(7, TELLS, 5);
        trace(x, 81, 2, 10, 80, 1, 30, 11);
        x.act(5, TELLS, 5);
        trace(x, 60, 2, 10, 1, 11);
    }

    @Says("THE TRACE: numbers of the bodies that ran in the latest act(), as they began; the first 24 are kept.")
    static void latestTrace() {
        SameStar x = wordsOfAllKinds();
        trace(x);
        x.act(7, TELLS, 5);
        trace(x, 81, 2, 10, 80, 1, 30, 11);
        x.act(0, DATES, 5);
        trace(x, 1);
        for (int i : new int[] {LEAST, -1, 1, 6, 7, 23, 24, MOST}) due("trace " + i, x.trace(i), BAD);
    }

    @Says("An ACT (0 .. 3) of a WORD with x. 0, and no TRACE then: no such WORD, ACT.")
    static void noSuchAct() {
        int[][] none = {{LEAST, 0}, {-1, 0}, {8, 0}, {MOST, 0}, {0, LEAST}, {0, -1}, {0, 4}, {0, MOST}, {8, 4}};
        SameStar x = wordsOfAllKinds();
        for (int[] n : none) {
            due("act 3 of word 0", x.act(0, TELLS, 5), 11);
            due("act " + n[1] + " of word " + n[0], x.act(n[0], n[1], 5), 0);
            trace(x);
        }
        for (int word = 0; word < 8; word++) {
            due("act 4 of word " + word, x.act(word, 4, 5), 0);
            trace(x);
            due("act -1 of word " + word, x.act(word, -1, 5), 0);
            trace(x);
        }
    }

    @Says("THE TRACE's i-th body. BAD.")
    static void traceOfNoAct() {
        for (int i : new int[] {LEAST, -1, 0, 1, 24, MOST}) due("trace " + i, new SameStar().trace(i), BAD);
    }

    // ---- terms 5: pages

    @Says("PAGES 0 .. 5 each hold nothing (at first), a WORD, or a ROW")
    static void pages() {
        SameStar x = new SameStar();
        x.word(99, 0, 0);
        for (int page = 0; page < 6; page++) {
            due("nothing on page " + page, x.taken(page, 0), NOTHING_THERE);
            due("nothing to put into on page " + page, x.put(page, 0, 1), NOTHING_THERE);
            due("a row on page " + page, x.row(page, INTS, page), 1);
            due("a place that is not there", x.put(page, page, 1), NO_SUCH_PLACE);
            due("a word on page " + page, x.keep(page, 0), 1);
            due("it is a word", x.taken(page, 0), 0);
            due("it is no row", x.put(page, 0, 1), OTHER_KIND);
            due("a row again", x.row(page, INTS, 1), 1);
            due("it is no word", x.taken(page, 0), OTHER_KIND);
            due("nothing again", x.keep(page, -1), 1);
            due("it is nothing", x.taken(page, 0), NOTHING_THERE);
        }
    }

    @Says("of 0 .. 60 elements, 0 at first (false)")
    static void sizesOfRows() {
        for (int sort = 0; sort < 5; sort++) {
            SameStar x = new SameStar();
            due("a row of 61", x.row(0, sort, 61), BAD);
            for (int size : new int[] {0, 1, 60}) {
                due("a row of " + size, x.row(0, sort, size), 1);
                for (int i = 0; i < size; i++) due("element " + i, x.element(0, i), 0);
                for (int i = 0; i < size; i++) x.put(0, i, 1);
                due("element " + size, x.put(0, size, 1), NO_SUCH_PLACE);
            }
        }
    }

    @Says("what is put in keeps its lowest bits (a boolean: whether it is not 0; 1 or 0)")
    static void lowestBits() {
        long[][] wants = {
            // what is put, then what it is as a byte, a short, an int, a long, a boolean
            {0, 0, 0, 0, 0, 0}, {1, 1, 1, 1, 1, 1}, {-1, -1, -1, -1, -1, 1}, {127, 127, 127, 127, 127, 1}, {128, -128, 128, 128, 128, 1},
            {-128, -128, -128, -128, -128, 1}, {-129, 127, -129, -129, -129, 1}, {256, 0, 256, 256, 256, 1}, {32767, -1, 32767, 32767, 32767, 1},
            {32768, 0, -32768, 32768, 32768, 1}, {-32769, -1, 32767, -32769, -32769, 1}, {65536, 0, 0, 65536, 65536, 1},
            {MOST, -1, -1, MOST, MOST, 1}, {MOST + 1L, 0, 0, LEAST, MOST + 1L, 1}, {LEAST - 1L, -1, -1, MOST, LEAST - 1L, 1},
            {1L << 32, 0, 0, 0, 1L << 32, 1}, {Long.MAX_VALUE, -1, -1, -1, Long.MAX_VALUE, 1}, {Long.MIN_VALUE, 0, 0, 0, Long.MIN_VALUE, 1},
        };
        SameStar x = new SameStar();
        for (int sort = 0; sort < 5; sort++) {
            x.row(sort, sort, 2);
            for (long[] w : wants) {
                due("put " + w[0] + " into sort " + sort, x.put(sort, 1, w[0]), 1);
                due(w[0] + " in sort " + sort, x.element(sort, 1), w[sort + 1]);
            }
            due("the element beside it", x.element(sort, 0), 0);
        }
    }

    @Says("The host's REFUSALS: -11 nothing is there where something is wanted; -12 it is of another kind; -13 a place that is not there; -14 a size below 0.")
    static void refusals() {
        SameStar x = new SameStar();
        x.word(99, 0, 0);
        x.keep(1, 0);
        x.row(2, BYTES, 2);
        x.row(3, SHORTS, 2);
        due("put where nothing is", x.put(0, 0, 1), NOTHING_THERE);
        due("put into a word", x.put(1, 0, 1), OTHER_KIND);
        due("put at 2", x.put(2, 2, 1), NO_SUCH_PLACE);
        due("shift from nothing", x.shift(0, 0, 2, 0, 1), NOTHING_THERE);
        due("shift from a word", x.shift(1, 0, 2, 0, 1), OTHER_KIND);
        due("shift to shorts", x.shift(2, 0, 3, 0, 1), OTHER_KIND);
        due("shift from 2", x.shift(2, 2, 2, 0, 1), NO_SUCH_PLACE);
        due("take nothing", x.taken(0, 0), NOTHING_THERE);
        due("take a row", x.taken(2, 0), OTHER_KIND);
        due("take a word for one placed", x.taken(1, 1), OTHER_KIND);
        due("words of a row of bytes", x.words(0, 2, 0, 1), OTHER_KIND);
        due("a row of -1", x.row(0, BYTES, -1), BELOW_ZERO);
    }

    // ---- promises

    @Says("A PAGE holds nothing (word -1), or a WORD: 1. BAD.")
    static void keep() {
        SameStar x = wordsOfAllKinds();
        for (int page : NO_PAGES) {
            due("keep nothing on page " + page, x.keep(page, -1), BAD);
            due("keep a word on page " + page, x.keep(page, 0), BAD);
        }
        due("keep word 7", x.keep(5, 7), 1);
        for (int word : new int[] {LEAST, -2, 8, MOST}) due("keep word " + word, x.keep(5, word), BAD);
        due("word 7 stays", x.taken(5, 0), 7);
        due("keep word 0", x.keep(5, 0), 1);
        due("it is word 0 now", x.taken(5, 0), 0);
        due("keep nothing", x.keep(5, -1), 1);
        due("keep nothing again", x.keep(5, -1), 1);
        due("it is nothing", x.taken(5, 0), NOTHING_THERE);
    }

    @Says("A PAGE holds a ROW: 1. BAD (sort, n above 60); -14.")
    static void row() {
        SameStar x = new SameStar();
        for (int page : NO_PAGES) due("row on page " + page, x.row(page, BYTES, 1), BAD);
        for (int sort : new int[] {LEAST, -1, 5, MOST}) due("row of sort " + sort, x.row(0, sort, 1), BAD);
        for (int n : new int[] {61, MOST}) due("row of " + n, x.row(0, BYTES, n), BAD);
        for (int n : new int[] {LEAST, -1}) {
            due("row of " + n, x.row(0, BYTES, n), BELOW_ZERO);
            due("row of " + n + " of no sort", x.row(0, 5, n), BAD);
            due("row of " + n + " on no page", x.row(6, BYTES, n), BAD);
        }
        due("nothing is there", x.taken(0, 0), NOTHING_THERE);
        x.row(0, LONGS, 2);
        x.put(0, 1, 7);
        due("row of -1", x.row(0, BYTES, -1), BELOW_ZERO);
        due("row of 61", x.row(0, BYTES, 61), BAD);
        due("the row stays", x.element(0, 1), 7);
        due("a row anew", x.row(0, LONGS, 2), 1);
        due("it is 0 at first", x.element(0, 1), 0);
    }

    @Says("Element i of a ROW becomes v: 1. BAD, -11, -12, -13.")
    static void put() {
        SameStar x = new SameStar();
        x.word(99, 0, 0);
        for (int page : NO_PAGES) due("page " + page, x.put(page, -1, 1), BAD);
        due("nothing there, no such place", x.put(0, -1, 1), NOTHING_THERE);
        x.keep(0, 0);
        due("a word, no such place", x.put(0, -1, 1), OTHER_KIND);
        x.row(0, LONGS, 3);
        for (int i : new int[] {LEAST, -1, 3, 60, MOST}) due("place " + i, x.put(0, i, 1), NO_SUCH_PLACE);
        for (int i = 0; i < 3; i++) due("still 0 at " + i, x.element(0, i), 0);
        due("place 0", x.put(0, 0, Long.MIN_VALUE), 1);
        due("place 2", x.put(0, 2, Long.MAX_VALUE), 1);
        due("at 0", x.element(0, 0), Long.MIN_VALUE);
        due("at 1", x.element(0, 1), 0);
        due("at 2", x.element(0, 2), Long.MAX_VALUE);
    }

    @Says("Element i of a ROW; Long.MIN_VALUE: BAD, -11 to -13.")
    static void element() {
        SameStar x = new SameStar();
        x.word(99, 0, 0);
        for (int page : NO_PAGES) due("page " + page, x.element(page, 0), Long.MIN_VALUE);
        due("nothing there", x.element(0, 0), Long.MIN_VALUE);
        x.keep(0, 0);
        due("a word", x.element(0, 0), Long.MIN_VALUE);
        x.row(0, BOOLEANS, 60);
        for (int i : new int[] {LEAST, -1, 60, MOST}) due("place " + i, x.element(0, i), Long.MIN_VALUE);
        due("place 0", x.element(0, 0), 0);
        due("place 59", x.element(0, 59), 0);
        x.row(0, BYTES, 0);
        due("of no elements", x.element(0, 0), Long.MIN_VALUE);
    }

    private static SameStar counted(int sort, int size) {
        SameStar x = new SameStar();
        for (int page = 0; page < 2; page++) {
            x.row(page, sort, size);
            for (int i = 0; i < size; i++) x.put(page, i, 10 * page + i);
        }
        return x;
    }

    private static void holds(SameStar x, int page, int... wants) {
        for (int i = 0; i < wants.length; i++) due("element " + i + " of page " + page, x.element(page, i), wants[i]);
    }

    @Says("n elements of a ROW from i on come to another one (or the same) from j on, as they all were before: n.")
    static void shift() {
        for (int sort = 0; sort < 4; sort++) {
            SameStar x = counted(sort, 5);
            due("all", x.shift(0, 0, 1, 0, 5), 5);
            holds(x, 1, 0, 1, 2, 3, 4);
            due("up in the same", x.shift(0, 0, 0, 1, 4), 4);
            holds(x, 0, 0, 0, 1, 2, 3);
            due("down in the same", x.shift(1, 1, 1, 0, 4), 4);
            holds(x, 1, 1, 2, 3, 4, 4);
            due("the last", x.shift(1, 4, 0, 4, 1), 1);
            holds(x, 0, 0, 0, 1, 2, 4);
            due("where they are", x.shift(0, 0, 0, 0, 5), 5);
            holds(x, 0, 0, 0, 1, 2, 4);
            due("none", x.shift(0, 0, 1, 0, 0), 0);
            due("none, from the end", x.shift(0, 5, 1, 5, 0), 0);
            holds(x, 1, 1, 2, 3, 4, 4);
        }
        SameStar x = counted(BOOLEANS, 3);
        due("booleans", x.shift(0, 0, 1, 1, 2), 2);
        holds(x, 1, 1, 0, 1);
    }

    @Says("BAD, -11 (either), -12 (no ROWS, or of unlike sorts), -13 (n below 0, too; with n 0, too, if i or j is above how many there are).")
    static void shiftRefused() {
        SameStar x = counted(INTS, 5);
        x.word(99, 0, 0);
        x.keep(2, 0);
        x.row(3, LONGS, 5);
        for (int page : NO_PAGES) {
            due("from page " + page, x.shift(page, 0, 5, 0, 1), BAD);
            due("to page " + page, x.shift(5, 0, page, 0, 1), BAD);
        }
        due("nothing to nothing", x.shift(4, 0, 5, 0, 1), NOTHING_THERE);
        due("nothing to a word", x.shift(4, 0, 2, 0, 1), NOTHING_THERE);
        due("a word to nothing", x.shift(2, 0, 4, 0, 1), NOTHING_THERE);
        due("a row to nothing, no such place", x.shift(0, -1, 4, 0, 1), NOTHING_THERE);
        due("a word to a row, no such place", x.shift(2, -1, 0, 0, 1), OTHER_KIND);
        due("a row to a word, no such place", x.shift(0, -1, 2, 0, 1), OTHER_KIND);
        due("a word to itself", x.shift(2, 0, 2, 0, 0), OTHER_KIND);
        due("ints to longs, n below 0", x.shift(0, 0, 3, 0, -1), OTHER_KIND);
        due("longs to ints, none", x.shift(3, 0, 0, 0, 0), OTHER_KIND);
        int[][] noPlaces = {
            {0, 0, -1}, {0, 0, LEAST}, {5, 5, -1}, {0, 0, 6}, {0, 0, MOST}, {1, 0, 5}, {0, 1, 5}, {5, 0, 1}, {0, 5, 1}, {-1, 0, 1}, {0, -1, 1},
            {6, 0, 0}, {0, 6, 0}, {-1, 0, 0}, {0, -1, 0}, {MOST, 0, 0}, {0, LEAST, 0}, {MOST, 0, MOST}, {5, 5, MOST},
        };
        for (int[] n : noPlaces) due("shift " + n[0] + ", " + n[1] + ", " + n[2], x.shift(0, n[0], 1, n[1], n[2]), NO_SUCH_PLACE);
        holds(x, 0, 0, 1, 2, 3, 4);
        holds(x, 1, 10, 11, 12, 13, 14);
    }

    @Says("-13 (n below 0, too; with n 0, too")
    static void shiftOfUnlikeSizes() {
        SameStar x = new SameStar();
        x.row(0, INTS, 3);
        x.row(1, INTS, 0);
        x.row(2, INTS, 60);
        due("none to a row of none", x.shift(0, 3, 1, 0, 0), 0);
        due("none to place 1 of none", x.shift(0, 0, 1, 1, 0), NO_SUCH_PLACE);
        due("one to a row of none", x.shift(0, 0, 1, 0, 1), NO_SUCH_PLACE);
        due("one of a row of none", x.shift(1, 0, 0, 0, 1), NO_SUCH_PLACE);
        due("three to the end of sixty", x.shift(0, 0, 2, 57, 3), 3);
        due("three beyond the end of sixty", x.shift(0, 0, 2, 58, 3), NO_SUCH_PLACE);
        due("four of three", x.shift(0, 0, 2, 0, 4), NO_SUCH_PLACE);
    }

    @Says("What a PAGE holds, taken for a WORD of KIND k (0 .. 7), or under it: its KIND. BAD, -11, -12.")
    static void taken() {
        SameStar x = wordsOfAllKinds();
        int[] above = {-1, 0, 0, 0, 0, 0, 1, 2};
        for (int kind = 0; kind < 8; kind++) {
            x.keep(0, kind);
            for (int k = 0; k < 8; k++) {
                boolean is = k == kind || k == 0 || k == above[kind];
                due("kind " + kind + " taken for " + k, x.taken(0, k), is ? kind : OTHER_KIND);
            }
        }
        for (int k : new int[] {LEAST, -1, 8, MOST}) {
            due("taken for " + k, x.taken(0, k), BAD);
            due("nothing taken for " + k, x.taken(1, k), BAD);
        }
        for (int page : NO_PAGES) due("taken from page " + page, x.taken(page, 0), BAD);
        due("nothing taken", x.taken(1, 0), NOTHING_THERE);
        x.row(1, INTS, 0);
        due("a row taken", x.taken(1, 0), OTHER_KIND);
    }

    @Says("How many: 0 GREAT BODIES, 1 COMETS, 2 WORDS, 3 bytes on THE TAPE, 4 WATCHES, 5 EVENINGS, 6 bodies that ran in the latest act() (all, kept or not). BAD.")
    static void count() {
        SameStar x = new SameStar();
        for (int what : new int[] {LEAST, -1, 7, MOST}) due("count " + what, x.count(what), BAD);
        for (int i = 0; i < 4; i++) x.great(100, 0);
        for (int i = 0; i < 12; i++) x.comet(0, 200, 5, 0);
        for (int i = 0; i < 150; i++) x.word(99, 0, 0);
        for (int i = 0; i < 30; i++) x.feed(4, '1');
        for (int i = 0; i < 10; i++) x.watch(0, 0, 0);
        for (int i = 0; i < 5; i++) x.observed(0, 0);
        x.act(149, TELLS, 5);
        int[] wants = {4, 12, 150, 120, 10, 5, 4};
        for (int what = 0; what <= 6; what++) due("count " + what, x.count(what), wants[what]);
    }

    @Says("public static final int BAD = -1, NOT = -2, FULL = -3, STATE = -5, VOID = -2000000000;")
    static void constants() {
        int[] are = {SameStar.BAD, SameStar.NOT, SameStar.FULL, SameStar.STATE, SameStar.VOID};
        int[] wants = {-1, -2, -3, -5, -2000000000};
        for (int i = 0; i < 5; i++) due("constant " + i, are[i], wants[i]);
    }
}
