/** Promises 37 to 43: pages that hold nothing, a word or a row. */
public final class PageTest {
    private static final int BAD = SameStar.BAD;
    private static final int NOTHING_THERE = -11, OTHER_KIND = -12, NO_SUCH_PLACE = -13, BELOW_ZERO = -14;
    private static final int[] NO_PAGES = {-1, 6, Integer.MIN_VALUE, Integer.MAX_VALUE};
    private static final Dues DUES = new Dues("PageTest");

    public static void main(String[] args) {
        keep();
        row();
        put();
        putNarrowed();
        element();
        shift();
        shiftWithinOneRow();
        shiftRefused();
        taken();
        count();
        constants();
        DUES.end();
    }

    private static void due(String call, long got, long want) {
        DUES.due(call, got, want);
    }

    private static void keep() {
        SameStar x = new SameStar();
        x.word(299, 0, 1);
        for (int page : NO_PAGES) due("keep " + page, x.keep(page, 0), BAD);
        due("keep word 1", x.keep(0, 1), BAD);
        due("keep word -2", x.keep(0, -2), BAD);
        due("a bad one is not kept", x.taken(0, 0), NOTHING_THERE);
        due("keep nothing", x.keep(5, -1), 1);
        due("keep a word", x.keep(5, 0), 1);
        due("taken", x.taken(5, 0), 2);
        due("keep word 1 there", x.keep(5, 1), BAD);
        due("the word stays", x.taken(5, 0), 2);
        due("keep nothing there", x.keep(5, -1), 1);
        due("taken of nothing", x.taken(5, 0), NOTHING_THERE);
        x.row(4, 0, 3);
        due("keep a word where a row was", x.keep(4, 0), 1);
        due("put into a word", x.put(4, 0, 1), OTHER_KIND);
    }

    private static void row() {
        SameStar x = new SameStar();
        for (int page : NO_PAGES) due("row " + page, x.row(page, 0, 1), BAD);
        due("row sort -1", x.row(0, -1, 1), BAD);
        due("row sort 5", x.row(0, 5, 1), BAD);
        due("row of 61", x.row(0, 0, 61), BAD);
        due("row of -1", x.row(0, 0, -1), BELOW_ZERO);
        due("row of the least int", x.row(0, 4, Integer.MIN_VALUE), BELOW_ZERO);
        due("row bad ahead of -14", x.row(0, 5, -1), BAD);
        due("row bad page ahead of -14", x.row(6, 0, -1), BAD);
        due("a refused one is not held", x.put(0, 0, 1), NOTHING_THERE);
        for (int sort = 0; sort < 5; sort++) {
            SameStar y = new SameStar();
            due("row of sort " + sort, y.row(0, sort, 60), 1);
            for (int i = 0; i < 60; i++) due("element at first", y.element(0, i), 0);
            for (int i = 0; i < 60; i++) y.put(0, i, 1);
            due("row of sort " + sort + " again", y.row(0, sort, 60), 1);
            for (int i = 0; i < 60; i++) due("element of a new row", y.element(0, i), 0);
        }
        due("row of none", x.row(0, 0, 0), 1);
        due("element of none", x.put(0, 0, 1), NO_SUCH_PLACE);
        due("row again", x.row(0, 0, 60), 1);
        due("element of a new row", x.element(0, 59), 0);
    }

    private static void put() {
        SameStar x = new SameStar();
        x.word(99, 0, 0);
        for (int page : NO_PAGES) due("put on page " + page, x.put(page, 0, 1), BAD);
        due("put where nothing is", x.put(1, 0, 1), NOTHING_THERE);
        x.keep(1, 0);
        due("put into a word", x.put(1, 0, 1), OTHER_KIND);
        due("put into a word, no place", x.put(1, -1, 1), OTHER_KIND);
        x.row(1, 2, 3);
        due("put at -1", x.put(1, -1, 1), NO_SUCH_PLACE);
        due("put at 3", x.put(1, 3, 1), NO_SUCH_PLACE);
        due("put at the greatest", x.put(1, Integer.MAX_VALUE, 1), NO_SUCH_PLACE);
        due("put at 2", x.put(1, 2, -77), 1);
        due("element 2", x.element(1, 2), -77);
        due("element 1", x.element(1, 1), 0);
    }

    private static void putNarrowed() {
        long[] values = {0, 1, -1, 127, 128, 255, 256, 300, -129, 32767, 32768, 65536, 0x80000000L, 0x7fffffffL, 0x100000000L, Long.MIN_VALUE, Long.MAX_VALUE};
        SameStar x = new SameStar();
        for (int sort = 0; sort < 5; sort++) {
            x.row(sort, sort, 1);
            for (long v : values) {
                long want = sort == 0 ? (byte) v : sort == 1 ? (short) v : sort == 2 ? (int) v : sort == 3 ? v : v == 0 ? 0 : 1;
                due("put " + v + " into sort " + sort, x.put(sort, 0, v), 1);
                due("element of sort " + sort, x.element(sort, 0), want);
            }
        }
    }

    private static void element() {
        SameStar x = new SameStar();
        x.word(99, 0, 0);
        for (int page : NO_PAGES) due("element of page " + page, x.element(page, 0), Long.MIN_VALUE);
        due("element where nothing is", x.element(0, 0), Long.MIN_VALUE);
        x.keep(0, 0);
        due("element of a word", x.element(0, 0), Long.MIN_VALUE);
        x.row(0, 3, 2);
        due("element -1", x.element(0, -1), Long.MIN_VALUE);
        due("element 2", x.element(0, 2), Long.MIN_VALUE);
        due("element 1", x.element(0, 1), 0);
    }

    private static SameStar rows() {
        SameStar x = new SameStar();
        for (int page = 0; page < 2; page++) {
            x.row(page, 2, 5);
            for (int i = 0; i < 5; i++) x.put(page, i, 10 * page + i);
        }
        return x;
    }

    private static void holds(String call, SameStar x, int page, int... want) {
        for (int i = 0; i < want.length; i++) due(call + ": element " + i, x.element(page, i), want[i]);
    }

    private static void shift() {
        SameStar x = rows();
        due("shift", x.shift(0, 1, 1, 2, 3), 3);
        holds("shift", x, 1, 10, 11, 1, 2, 3);
        holds("shift from", x, 0, 0, 1, 2, 3, 4);
        due("shift all", x.shift(1, 0, 0, 0, 5), 5);
        holds("shift all", x, 0, 10, 11, 1, 2, 3);
        due("shift none", x.shift(1, 5, 0, 5, 0), 0);
        due("shift none from 0", x.shift(1, 0, 0, 0, 0), 0);
        holds("shift none", x, 0, 10, 11, 1, 2, 3);
    }

    private static void shiftWithinOneRow() {
        SameStar x = rows();
        due("shift on", x.shift(0, 0, 0, 1, 4), 4);
        holds("shift on", x, 0, 0, 0, 1, 2, 3);
        due("shift back", x.shift(1, 2, 1, 0, 3), 3);
        holds("shift back", x, 1, 12, 13, 14, 13, 14);
        due("shift in place", x.shift(1, 1, 1, 1, 4), 4);
        holds("shift in place", x, 1, 12, 13, 14, 13, 14);
    }

    private static void shiftRefused() {
        SameStar x = rows();
        x.word(99, 0, 0);
        for (int page : NO_PAGES) {
            due("shift from page " + page, x.shift(page, 0, 0, 0, 1), BAD);
            due("shift to page " + page, x.shift(0, 0, page, 0, 1), BAD);
        }
        due("shift from nothing", x.shift(3, 0, 0, 0, 1), NOTHING_THERE);
        due("shift to nothing", x.shift(0, 0, 3, 0, 1), NOTHING_THERE);
        x.keep(4, 0);
        due("shift to nothing, ahead of -12", x.shift(4, 0, 3, 0, 1), NOTHING_THERE);
        due("shift from a word", x.shift(4, 0, 0, 0, 1), OTHER_KIND);
        due("shift to a word", x.shift(0, 0, 4, 0, 1), OTHER_KIND);
        due("shift within a word", x.shift(4, 0, 4, 0, 0), OTHER_KIND);
        x.row(5, 3, 5);
        due("shift to another sort", x.shift(0, 0, 5, 0, 1), OTHER_KIND);
        due("shift to another sort, no place", x.shift(0, 9, 5, 0, 1), OTHER_KIND);
        int[][] noPlace = {
            {0, 0, -1}, {-1, 0, 1}, {0, -1, 1}, {5, 0, 1}, {0, 5, 1}, {0, 0, 6}, {1, 0, 5}, {0, 1, 5}, {6, 0, 0}, {0, 6, 0}, {-1, 0, 0}, {0, -1, 0},
            {0, 0, Integer.MAX_VALUE}, {1, 0, Integer.MAX_VALUE}, {Integer.MAX_VALUE, 0, 1}, {0, Integer.MAX_VALUE, 1}, {0, 0, Integer.MIN_VALUE},
        };
        for (int[] n : noPlace) due("shift " + n[0] + ", " + n[1] + ", " + n[2], x.shift(0, n[0], 1, n[1], n[2]), NO_SUCH_PLACE);
        holds("shift refused", x, 1, 10, 11, 12, 13, 14);
    }

    private static void taken() {
        SameStar x = new SameStar();
        for (int kind = 0; kind < 8; kind++) {
            due("word of kind " + kind, x.word(100 * kind + 99, 0, 0), kind);
        }
        int[][] above = {{0}, {1, 0}, {2, 0}, {3, 0}, {4, 0}, {5, 0}, {6, 1, 0}, {7, 2, 0}};
        for (int kind = 0; kind < 8; kind++) {
            x.keep(2, kind);
            for (int k = 0; k < 8; k++) {
                boolean is = false;
                for (int a : above[kind]) is = is || a == k;
                due("taken of kind " + kind + " for " + k, x.taken(2, k), is ? kind : OTHER_KIND);
            }
        }
        due("taken for 8", x.taken(2, 8), BAD);
        due("taken for -1", x.taken(2, -1), BAD);
        for (int page : NO_PAGES) due("taken from page " + page, x.taken(page, 0), BAD);
        due("taken of nothing", x.taken(3, 0), NOTHING_THERE);
        due("taken of nothing for 8", x.taken(3, 8), BAD);
        x.row(3, 0, 1);
        due("taken of a row", x.taken(3, 0), OTHER_KIND);
    }

    private static void count() {
        SameStar x = new SameStar();
        x.great(100, 0);
        for (int i = 0; i < 2; i++) x.comet(5, 200, 5, 0);
        for (int i = 0; i < 3; i++) x.word(99, 0, 0);
        x.feed(4, 0);
        for (int i = 0; i < 5; i++) x.watch(0, 0, 0);
        for (int i = 0; i < 4; i++) x.observed(0, 0);
        x.act(0, 3, 0);
        int[] want = {1, 2, 3, 4, 5, 4, 4};
        for (int what = 0; what < 7; what++) due("count " + what, x.count(what), want[what]);
        due("count 7", x.count(7), BAD);
        due("count -1", x.count(-1), BAD);
    }

    private static void constants() {
        due("BAD", SameStar.BAD, -1);
        due("NOT", SameStar.NOT, -2);
        due("FULL", SameStar.FULL, -3);
        due("STATE", SameStar.STATE, -5);
        due("VOID", SameStar.VOID, -2000000000);
    }
}
