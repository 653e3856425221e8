/** Promises 12 to 22: words, words from a row, spans, which returns words fit, evenings, roots. */
public final class WordTest {
    private static final int BAD = SameStar.BAD, NOT = SameStar.NOT, FULL = SameStar.FULL, VOID = SameStar.VOID;
    private static final int WORD = 0, PLACED = 1, SEEN = 2, COPIED = 3, MOVED = 4, NEW_STAR = 5, MEASURED = 6, TWICE = 7;
    private static final int EAST = 0, WEST = 1;
    private static final Dues DUES = new Dues("WordTest");

    public static void main(String[] args) {
        word();
        date();
        words();
        wordsWithoutRoom();
        partsOfWords();
        spans();
        copiedSpans();
        fitsWord();
        fitsPlaced();
        fitsSeen();
        fitsTwice();
        fitsOthers();
        fitsCopied();
        fitsBad();
        perhaps();
        perhapsOfNoPass();
        perhapsSteps();
        whose();
        evening();
        behind();
        once();
        DUES.end();
    }

    private static void due(String call, long got, long want) {
        DUES.due(call, got, want);
    }

    private static void word() {
        SameStar x = new SameStar();
        x.reign(7, 5, -1);
        int[][] bad = {
            {-1, 0, 0}, {90099, 0, 0}, {899, 0, 0}, {20, 0, 0}, {98, 0, 0}, {6, 0, 0}, {99, -1, 0}, {99, 401, 0}, {199, 0, -1}, {199, 0, 24},
            {699, 0, -1}, {699, 0, 24}, {299, 0, -1}, {299, 0, 2}, {799, 0, -1}, {799, 0, 2}, {399, 0, 0}, {399, 0, -1}, {-99, 0, 0}, {1000099, 0, 0},
        };
        for (int[] b : bad) due("word " + b[0] + ", " + b[1] + ", " + b[2], x.word(b[0], b[1], b[2]), BAD);
        int[][] good = {
            {7, 400, -5}, {199, 0, 23}, {299, 0, 0}, {399, 0, 2}, {80499, 0, 99}, {599, 0, -1}, {699, 0, 0}, {799, 0, 1}, {99, 0, 999},
        };
        for (int i = 0; i < good.length; i++) {
            int[] g = good[i];
            due("word " + g[0] + ", " + g[1] + ", " + g[2], x.word(g[0], g[1], g[2]), i);
        }
        due("word copied of itself", x.word(399, 0, 9), BAD);
        for (int i = 9; i < 150; i++) due("word " + i, x.word(99, 0, 0), i);
        due("word 151st", x.word(99, 0, 0), FULL);
        due("word bad ahead of full", x.word(99, 401, 0), BAD);
        due("count", x.count(2), 150);
    }

    private static void date() {
        SameStar x = new SameStar();
        x.word(99, 0, 0);
        due("date", x.date(9999, 0, 9999), 1);
        x.word(99, 0, 0);
        int[][] bad = {{-1, 1, 1}, {10000, 1, 1}, {1, -1, 1}, {1, 10000, 1}, {1, 1, -1}, {1, 1, 10000}};
        for (int[] b : bad) due("date " + b[0] + ", " + b[1] + ", " + b[2], x.date(b[0], b[1], b[2]), BAD);
        x.word(99, 0, 0);
        due("date 2", x.date(5, 6, 7), 1);
        x.word(99, 0, 0);
        int[][] want = {{0, 0, 0}, {9999, 0, 9999}, {9999, 0, 9999}, {5, 6, 7}};
        for (int i = 0; i < 4; i++) {
            for (int what = 2; what <= 4; what++) due("ofWord " + i + ", " + what, x.ofWord(i, what), want[i][what - 2]);
        }
    }

    private static void putFives(SameStar x, int page, int... values) {
        for (int i = 0; i < values.length; i++) x.put(page, i, values[i]);
    }

    private static void words() {
        SameStar x = new SameStar();
        x.date(1, 2, 3);
        due("words of a missing row", x.words(0, 0, 0, 1), 0);
        x.row(0, 1, 60);
        putFives(x, 0, 7, 8, 9, 10, 4, 9999, 0, 9999, 400, 5, 1, 1, 1, 1, 0, 2, 2, 2, 2, 1);
        int[][] bad = {{-1, 0, 0, 1}, {9, 0, 0, 1}, {0, -1, 0, 1}, {0, 6, 0, 1}, {0, 0, 0, 0}, {0, 0, 0, 13}, {0, 0, 0, -1}};
        for (int[] b : bad) due("words " + b[0] + ", " + b[1] + ", " + b[3], x.words(b[0], b[1], b[2], b[3]), BAD);
        due("words until one is not so", x.words(8, 0, 0, 12), 3);
        int[][] want = {{4, 8, 7, 8, 9, -1, 10, -1, 0, 1}, {5, 8, 9999, 0, 9999, -1, 400, -1, 1, 1}, {0, 8, 1, 1, 1, -1, 1, -1, 2, 1}};
        for (int i = 0; i < 3; i++) {
            for (int what = 0; what < 10; what++) due("ofWord " + i + ", " + what, x.ofWord(i, what), want[i][what]);
        }
        due("words: n of them", x.words(0, 0, 0, 2), 2);
        due("words from a place on", x.words(0, 0, 10, 12), 1);
        due("words of no kind", x.words(0, 0, 15, 12), 0);
        due("words from -1 on", x.words(0, 0, -1, 1), 0);
        due("words from the least on", x.words(0, 0, Integer.MIN_VALUE, 1), 0);
        due("words from the greatest on", x.words(0, 0, Integer.MAX_VALUE, 1), 0);
        due("words from the row's last five on", x.words(0, 0, 55, 2), 1);
        due("words from within the last five on", x.words(0, 0, 56, 2), 0);
        due("words from the row's end on", x.words(0, 0, 60, 1), 0);
        due("words: twelve", x.words(0, 0, 20, 12), 8);
        due("date stays", x.word(99, 0, 0), 15);
        due("date stays", x.ofWord(15, 3), 2);
        int[][] notSo = {{-1, 0, 0, 0, 0}, {10000, 0, 0, 0, 0}, {0, -1, 0, 0, 0}, {0, 10000, 0, 0, 0}, {0, 0, -1, 0, 0}, {0, 0, 10000, 0, 0},
            {0, 0, 0, -1, 0}, {0, 0, 0, 401, 0}, {0, 0, 0, 0, -1}, {0, 0, 0, 0, 1}, {0, 0, 0, 0, 2}, {0, 0, 0, 0, 3}, {0, 0, 0, 0, 6}, {0, 0, 0, 0, 7}, {0, 0, 0, 0, 8}};
        for (int[] n : notSo) {
            putFives(x, 0, n);
            due("words not so", x.words(0, 0, 0, 1), 0);
        }
        x.row(1, 1, 9);
        due("words of a row that ends within a five", x.words(0, 1, 0, 12), 1);
        for (int sort : new int[] {0, 2, 3, 4}) {
            x.row(2, sort, 10);
            due("words of a row of " + sort, x.words(0, 2, 0, 1), -12);
            due("words of a row of " + sort + " from -1 on", x.words(0, 2, -1, 1), -12);
        }
        x.keep(3, 0);
        due("words of a word", x.words(0, 3, 0, 1), -12);
        due("words bad ahead of -12", x.words(9, 3, 0, 1), BAD);
        x.keep(3, -1);
        due("words of a page that holds nothing again", x.words(0, 3, 0, 1), 0);
    }

    private static void wordsWithoutRoom() {
        SameStar x = new SameStar();
        for (int i = 0; i < 148; i++) x.word(99, 0, 0);
        x.row(0, 1, 60);
        due("words until there is no room", x.words(0, 0, 0, 12), 2);
        due("words without room", x.words(0, 0, 0, 12), 0);
        due("count", x.count(2), 150);
    }

    private static void partsOfWords() {
        SameStar x = new SameStar();
        x.reign(4, 0, 9);
        x.date(1, 2, 3);
        x.word(80604, 17, 23);
        x.word(10799, 400, 1);
        x.word(20399, 5, 0);
        x.word(30399, 6, 2);
        x.word(404, 0, 7);
        int[][] want = {
            {6, 8, 1, 2, 3, 4, 17, 23, 0, 2}, {7, 1, 1, 2, 3, -1, 400, 1, 1, 1}, {3, 2, 1, 2, 3, -1, 5, 0, 0, 2},
            {3, 3, 1, 2, 3, -1, 6, 2, 0, 2}, {4, 0, 1, 2, 3, 4, 0, -1, 4, 2},
        };
        for (int i = 0; i < want.length; i++) {
            for (int what = 0; what < 10; what++) due("ofWord " + i + ", " + what, x.ofWord(i, what), want[i][what]);
        }
        due("ofWord what 10", x.ofWord(0, 10), BAD);
        due("ofWord what -1", x.ofWord(0, -1), BAD);
        due("ofWord -1", x.ofWord(-1, 0), BAD);
        due("ofWord 5", x.ofWord(5, 0), BAD);
    }

    private static void span(SameStar x, int word, int i, int from, int to) {
        due("span " + word + ", " + i + ", 0", x.span(word, i, 0), from);
        due("span " + word + ", " + i + ", 1", x.span(word, i, 1), to);
    }

    private static void spans() {
        SameStar x = new SameStar();
        Dues.add(x, WORD, 0, 5000, 7, 0);
        span(x, 0, 0, 4993, 5007);
        span(x, 0, 1, VOID, VOID);
        Dues.add(x, WORD, 0, 3, 5, 0);
        span(x, 1, 0, 0, 8);
        Dues.add(x, WORD, 0, 999999, 400, 0);
        span(x, 2, 0, 999599, 999999);
        x.date(9999, 9999, 9999);
        x.word(99, 400, 0);
        span(x, 3, 0, VOID, VOID);
        Dues.add(x, WORD, 0, 1000399, 400, 0);
        span(x, 4, 0, 999999, 999999);
        Dues.add(x, WORD, 0, 1000400, 400, 0);
        span(x, 5, 0, VOID, VOID);
        due("a span without days is one", x.ofWord(5, 9), 1);
        Dues.tell(x, 11, "d-r");
        x.reign(2, 10, 500);
        x.date(0, 0, 510);
        x.word(10002, 10, 0);
        span(x, 6, 0, 490, 510);
        span(x, 6, 1, 0, 20);
        x.date(0, 0, 489);
        x.word(10002, 10, 0);
        span(x, 7, 1, VOID, VOID);
        due("two spans, one without days", x.ofWord(7, 9), 2);
        due("span i 2", x.span(6, 2, 0), VOID);
        due("span i -1", x.span(6, -1, 0), VOID);
        due("span what 2", x.span(6, 0, 2), VOID);
        due("span what -1", x.span(6, 0, -1), VOID);
        due("span -1", x.span(-1, 0, 0), VOID);
        due("span 8", x.span(8, 0, 0), VOID);
    }

    private static void copiedSpans() {
        SameStar x = new SameStar();
        x.reign(1, 100, 200);
        Dues.tell(x, 13, "1000*y+r");
        Dues.tell(x, 12, "7");
        x.date(5, 0, 0);
        x.word(30001, 10, 0);
        x.date(6, 0, 0);
        x.word(20399, 20, 0);
        x.word(20399, 30, 1);
        for (int i = 0; i < 3; i++) {
            span(x, i, 0, 5090, 5110);
            span(x, i, 1, 5190, 5210);
        }
        due("own slack", x.ofWord(2, 6), 30);
        due("own year", x.ofWord(2, 2), 6);
        due("own reign", x.ofWord(2, 5), -1);
        due("its word", x.ofWord(2, 7), 1);
        due("its root", x.ofWord(2, 8), 0);
        x.reign(1, 300, -1);
        span(x, 2, 0, 5290, 5310);
        span(x, 2, 1, VOID, VOID);
        Dues.tell(x, 13, "2000");
        span(x, 2, 0, 1990, 2010);
    }

    private static void fit(SameStar x, int kind, int day, int slack, int more, int want) {
        int word = Dues.add(x, kind, 0, day, slack, more);
        due("fits kind " + kind + ", " + (day - 36000) + ", " + slack + ", " + more, x.fits(word, 0, 0), want);
    }

    private static void fitsWord() {
        SameStar x = Dues.turning();
        fit(x, WORD, 36000, 400, 0, 35880);
        fit(x, WORD, 36000, 0, 0, 36000);
        fit(x, WORD, 36018, 0, 0, 36018);
        fit(x, WORD, 36019, 0, 0, NOT);
        fit(x, WORD, 36026, 8, 0, 36018);
        fit(x, WORD, 36026, 7, 0, NOT);
        fit(x, WORD, 36034, 1, 0, 36035);
        fit(x, WORD, 36121, 0, 0, NOT);
        fit(x, WORD, 36121, 1, 0, 36120);
        fit(x, WORD, 35879, 1, 0, 35880);
        fit(x, WORD, 35479, 400, 0, NOT);
    }

    private static void fitsPlaced() {
        // Passes on 36090, when the sun is at 90; degrees then as told.
        int[][] wants = {
            // degree, lodge, PLACED, MEASURED
            {353, 0, 36090, NOT}, {352, 0, NOT, NOT}, {0, 0, 36090, 36090}, {14, 0, 36090, 36090}, {15, 0, 36090, NOT}, {21, 0, 36090, NOT},
            {22, 0, NOT, NOT}, {359, 23, 36090, 36090}, {0, 23, 36090, NOT}, {6, 23, 36090, NOT}, {7, 23, NOT, NOT}, {338, 23, 36090, NOT},
            {337, 23, NOT, NOT}, {345, 23, 36090, 36090}, {344, 23, 36090, NOT}, {180, 12, 36090, 36090}, {180, 0, NOT, NOT}, {200, 12, 36090, NOT},
        };
        for (int[] w : wants) {
            SameStar x = new SameStar();
            x.comet(36090, 40000, 100 * w[0] + 10, 5);
            Dues.add(x, PLACED, 0, 36090, 0, w[1]);
            Dues.add(x, MEASURED, 0, 36090, 0, w[1]);
            due("placed " + w[0] + ", " + w[1], x.fits(0, 0, 0), w[2]);
            due("measured " + w[0] + ", " + w[1], x.fits(1, 0, 0), w[3]);
        }
        SameStar x = Dues.turning();
        // Degrees 115, 110, 105, 98, 90, 82 from 4 days ahead to 1 behind.
        fit(x, MEASURED, 36000, 10, 6, 35999);
        fit(x, PLACED, 36000, 10, 6, 35997);
        fit(x, MEASURED, 36010, 9, 6, NOT);
        fit(x, PLACED, 36010, 9, 6, NOT);
    }

    private static void fitsSeen() {
        SameStar x = Dues.turning();
        fit(x, SEEN, 36000, 60, WEST, 35975);
        fit(x, SEEN, 36000, 60, EAST, 35940);
        fit(x, SEEN, 36010, 8, EAST, NOT);
        fit(x, SEEN, 36010, 8, WEST, 36002);
        fit(x, SEEN, 36034, 0, EAST, NOT);
        fit(x, SEEN, 36034, 1, EAST, 36035);
        fit(x, SEEN, 36060, 41, WEST, NOT);
        fit(x, SEEN, 36060, 42, WEST, 36018);
        fit(x, SEEN, 35974, 0, WEST, NOT);
        fit(x, SEEN, 35974, 0, EAST, 35974);
        // Opposite the sun it is east: 180 is not below 180.
        SameStar y = new SameStar();
        y.comet(36000, 40000, 18010, 5);
        y.comet(36000, 40000, 17910, 5);
        Dues.add(y, SEEN, 0, 36000, 0, WEST);
        Dues.add(y, SEEN, 0, 36000, 0, EAST);
        due("west at 180", y.fits(0, 0, 0), NOT);
        due("east at 180", y.fits(1, 0, 0), 36000);
        due("west at 179", y.fits(0, 1, 0), 36000);
        due("east at 179", y.fits(1, 1, 0), NOT);
    }

    private static void fitsTwice() {
        SameStar x = Dues.turning();
        fit(x, TWICE, 36025, 15, WEST, 36010);
        fit(x, TWICE, 36025, 15, EAST, 36035);
        fit(x, TWICE, 36022, 12, WEST, NOT);
        fit(x, TWICE, 36022, 12, EAST, NOT);
        fit(x, TWICE, 36060, 20, EAST, NOT);
        fit(x, TWICE, 35975, 1, WEST, 35975);
        fit(x, TWICE, 35975, 1, EAST, 35974);
        fit(x, TWICE, 36000, 400, WEST, 35975);
        fit(x, TWICE, 36000, 400, EAST, 35880);
        // West in the one span, east in the other one.
        Dues.tell(x, 15, "r");
        x.reign(0, 36050, 36000);
        x.word(50700, 5, WEST);
        due("twice over two spans, west", x.fits(x.count(2) - 1, 0, 0), 35995);
        x.word(50700, 5, EAST);
        due("twice over two spans, east", x.fits(x.count(2) - 1, 0, 0), 36045);
        x.reign(0, 36050, 36100);
        due("twice, both in the east", x.fits(x.count(2) - 1, 0, 0), NOT);
    }

    private static void fitsOthers() {
        SameStar x = Dues.turning();
        fit(x, MOVED, 36000, 400, 0, 35990);
        fit(x, MOVED, 36011, 0, 0, NOT);
        fit(x, MOVED, 36011, 1, 0, 36010);
        fit(x, MOVED, 35989, 0, 0, NOT);
        fit(x, MOVED, 35989, 1, 0, 35990);
        fit(x, NEW_STAR, 36000, 10, 0, 35990);
        Dues.tell(x, 1, "e+8");
        fit(x, NEW_STAR, 36000, 10, 0, 35990);
        fit(x, NEW_STAR, 36000, 7, 0, NOT);
        fit(x, NEW_STAR, 36000, 8, 0, 35992);
        Dues.tell(x, 1, "p=3?0;1");
        fit(x, NEW_STAR, 36000, 8, 0, NOT);
        due("new star by people 3", x.fits(Dues.add(x, NEW_STAR, 3, 36000, 8, 0), 0, 0), 35992);
        // Of two spans the least day is told, be it in the one told last.
        Dues.tell(x, 15, "r");
        x.reign(0, 36010, 36000);
        x.word(50000, 3, 0);
        due("the least day of all spans", x.fits(x.count(2) - 1, 0, 0), 35997);
        x.reign(0, 36000, 36002);
        due("the least day of spans that meet", x.fits(x.count(2) - 1, 0, 0), 35997);
        x.reign(0, 36025, 36002);
        due("the first span has none", x.fits(x.count(2) - 1, 0, 0), 35999);
    }

    private static void fitsCopied() {
        SameStar x = Dues.turning();
        Dues.tell(x, 0, "p=4|e>5");
        int root = Dues.add(x, MEASURED, 3, 36000, 10, 20);
        Dues.date(x, 99);
        x.word(40399, 0, root);
        x.word(20399, 400, root);
        x.word(20399, 400, 1);
        due("the root does not fit", x.fits(0, 0, 0), NOT);
        due("copied by one who saw it", x.fits(1, 0, 0), 35990);
        due("copied by one who saw it later", x.fits(2, 0, 0), 36006);
        due("copied of a copy", x.fits(3, 0, 0), 36006);
    }

    private static void fitsBad() {
        SameStar x = Dues.turning();
        Dues.add(x, WORD, 0, 36000, 5, 0);
        due("fits word 1", x.fits(1, 0, 0), BAD);
        due("fits word -1", x.fits(-1, 0, 0), BAD);
        due("fits comet 1", x.fits(0, 1, 0), BAD);
        due("fits comet -1", x.fits(0, -1, 0), BAD);
        due("fits k 61", x.fits(0, 0, 61), BAD);
        due("fits k -61", x.fits(0, 0, -61), BAD);
        due("fits no such return", x.fits(0, 0, -1), NOT);
        due("perhaps word 1", x.perhaps(1, 0, 0), VOID);
        due("perhaps comet 1", x.perhaps(0, 1, 0), VOID);
        due("perhaps k 61", x.perhaps(0, 0, 61), VOID);
        due("perhaps k -61", x.perhaps(0, 0, -61), VOID);
        due("perhaps no such return", x.perhaps(0, 0, -1), NOT);
        due("whose word 1", x.whose(1, 0), VOID);
        due("whose comet 1", x.whose(0, 1), VOID);
    }

    private static void perhaps() {
        SameStar x = Dues.turning();
        x.great(20000, 60);
        due("pass 1", x.pass(0, 1, 0), 75940);
        int word = Dues.add(x, WORD, 0, 75940 + 125, 0, 0);
        due("fits", x.fits(word, 0, 1), NOT);
        due("perhaps by a move behind", x.perhaps(word, 0, 1), 8);
        word = Dues.add(x, WORD, 0, 75940 - 125, 0, 0);
        due("perhaps by a move ahead", x.perhaps(word, 0, 1), -8);
        word = Dues.add(x, WORD, 0, 75940 + 180, 0, 0);
        due("perhaps by the greatest move", x.perhaps(word, 0, 1), 60);
        word = Dues.add(x, WORD, 0, 75940 + 181, 0, 0);
        due("perhaps beyond the greatest move", x.perhaps(word, 0, 1), NOT);
        Dues.tell(x, 0, "e=50");
        due("perhaps by the least move", x.perhaps(Dues.add(x, WORD, 0, 75940 - 10, 0, 0), 0, 1), -60);
        due("perhaps beyond the least move", x.perhaps(Dues.add(x, WORD, 0, 75940 - 14, 0, 0), 0, 1), NOT);
        Dues.tell(x, 0, "1");
        word = Dues.add(x, WORD, 0, 75940, 0, 0);
        due("perhaps without a move", x.perhaps(word, 0, 1), 0);
        Dues.tell(x, 0, "e>4|e<0-4");
        due("perhaps by two like moves", x.perhaps(word, 0, 1), -8);
        Dues.tell(x, 0, "e<0-4");
        due("perhaps by one of them", x.perhaps(word, 0, 1), 8);
        Dues.tell(x, 0, "e<0-4");
        due("perhaps of return 0 has no moves", x.perhaps(Dues.add(x, WORD, 0, 36000, 0, 0), 0, 0), NOT);
        due("perhaps of return 0", x.perhaps(Dues.add(x, WORD, 0, 35990, 0, 0), 0, 0), 0);
    }

    // A pass is a day: what is moved to ahead of day 0 or behind day 999999 is none.
    private static void perhapsOfNoPass() {
        SameStar x = new SameStar();
        x.great(20000, 60);
        x.comet(300, 280, 109010, 5);
        due("pass -1", x.pass(0, -1, 0), 20);
        Dues.tell(x, 0, "e=50");
        due("perhaps by a pass on day 4", x.perhaps(Dues.add(x, WORD, 0, 54, 0, 0), 0, -1), -16);
        due("perhaps by a pass on day 0", x.perhaps(Dues.add(x, WORD, 0, 50, 0, 0), 0, -1), -20);
        int word = Dues.add(x, WORD, 0, 46, 0, 0);
        due("perhaps by no pass", x.perhaps(word, 0, -1), NOT);
        Dues.tell(x, 0, "e=50|e=2");
        due("perhaps by the like move behind", x.perhaps(word, 0, -1), 24);
        x.comet(999781, 250, 109010, 5);
        due("pass 1", x.pass(1, 1, 0), 999971);
        Dues.tell(x, 0, "e=0-50");
        due("perhaps by a pass on day 999995", x.perhaps(Dues.add(x, WORD, 0, 999945, 0, 0), 1, 1), 24);
        due("perhaps by a pass on day 999999", x.perhaps(Dues.add(x, WORD, 0, 999949, 0, 0), 1, 1), 28);
        due("perhaps by no pass", x.perhaps(Dues.add(x, WORD, 0, 999953, 0, 0), 1, 1), NOT);
    }

    // e is 3, if the pass is moved by -3: there is such a move or not, as steps go.
    private static void perhapsSteps() {
        int[][] wants = {
            // wide, the move by which e is 3, the least move of all, the least beside 0
            {19, -3, 0, -1}, {20, NOT, 0, -2}, {21, -3, -1}, {39, -3, -1}, {40, NOT, -1}, {42, -3, 0, -3}, {41, NOT, 1}, {2, NOT, 0, -1},
            {3, -3, 0, -1}, {1, NOT, 0, -1},
        };
        for (int[] w : wants) {
            SameStar x = Dues.turning();
            x.great(20000, w[0]);
            int word = Dues.add(x, WORD, 0, x.pass(0, 1, 0), 0, 0);
            Dues.tell(x, 0, "e=3");
            due("perhaps with wide " + w[0], x.perhaps(word, 0, 1), w[1]);
            Dues.tell(x, 0, "1");
            due("perhaps with wide " + w[0], x.perhaps(word, 0, 1), w[2]);
            Dues.tell(x, 0, "!e=0");
            if (w[2] == 0) due("perhaps by less than none with wide " + w[0], x.perhaps(word, 0, 1), w[3]);
        }
    }

    private static void whose() {
        SameStar x = Dues.turning();
        x.comet(36000, 300, 109010, 5);
        int word = Dues.add(x, WORD, 0, 36150, 31, 0);
        due("whose, of few returns", x.whose(word, 0), 0);
        due("whose, the first of two", x.whose(word, 1), 0);
        word = Dues.add(x, WORD, 0, 36150, 0, 0);
        due("whose, between returns", x.whose(word, 1), VOID);
        word = Dues.add(x, WORD, 0, 35100, 0, 0);
        due("whose, ahead", x.whose(word, 1), -3);
        word = Dues.add(x, WORD, 0, 36000 - 61 * 300, 0, 0);
        due("whose, beyond 60 ahead", x.whose(word, 1), VOID);
        word = Dues.add(x, WORD, 0, 36000 - 60 * 300, 0, 0);
        due("whose, 60 ahead", x.whose(word, 1), -60);
        word = Dues.add(x, WORD, 0, 36000 + 60 * 300, 0, 0);
        due("whose, 60 behind", x.whose(word, 1), 60);
    }

    private static void evening() {
        SameStar x = new SameStar();
        Dues.add(x, WORD, 0, 5000, 10, 0);
        Dues.add(x, WORD, 1, 5030, 20, 0);
        Dues.add(x, WORD, 2, 5031, 20, 0);
        due("evening on one day", x.evening(0, 1), 5010);
        due("evening the other way around", x.evening(1, 0), 5010);
        due("evening without a day", x.evening(0, 2), NOT);
        due("evening with itself", x.evening(0, 0), 4990);
        x.word(10399, 0, 0);
        due("evening with a copy", x.evening(3, 1), 5010);
        Dues.tell(x, 15, "r");
        x.reign(0, 6000, 5000);
        x.reign(1, 5005, 6001);
        x.word(50000, 2, 0);
        x.word(50001, 2, 0);
        due("evening of two spans each", x.evening(4, 5), 5999);
        x.reign(1, 5004, 6001);
        due("evening of two spans each, both meet", x.evening(4, 5), 5002);
        x.date(9999, 0, 0);
        x.word(99, 0, 0);
        due("evening beyond all days", x.evening(6, 6), NOT);
        due("evening 7", x.evening(0, 7), BAD);
        due("evening -1", x.evening(-1, 0), BAD);
    }

    private static void behind() {
        SameStar x = Dues.turning();
        x.comet(50000, 1000, 109010, 5);
        int ahead = Dues.add(x, WORD, 0, 35990, 9, 0);
        int on = Dues.add(x, WORD, 0, 36000, 0, 0);
        int after = Dues.add(x, WORD, 0, 36010, 9, 0);
        int about = Dues.add(x, WORD, 0, 36000, 1, 0);
        // The second comet passes on 36000, too, on return -14.
        due("behind", x.behind(ahead, after), 100);
        due("behind the other way around", x.behind(after, ahead), 100);
        due("behind: on the pass is neither", x.behind(on, after), NOT);
        due("behind: the other one on the pass", x.behind(ahead, on), NOT);
        due("behind: both ahead", x.behind(ahead, Dues.add(x, WORD, 0, 35980, 9, 0)), NOT);
        due("behind: one on both sides", x.behind(about, ahead), 100);
        int late = Dues.add(x, WORD, 0, 53040, 0, 0);
        int early = Dues.add(x, SEEN, 0, 52900, 0, EAST);
        due("behind of the second comet", x.behind(late, early), 1103);
        Dues.tell(x, 0, "b=5&e<0|p=3");
        due("behind: not seen after the pass", x.behind(late, early), NOT);
        due("behind: seen by another people", x.behind(Dues.add(x, WORD, 3, 53040, 0, 0), early), 1103);
        due("behind: a return ahead", x.behind(Dues.add(x, WORD, 3, 40990, 0, 0), Dues.add(x, WORD, 3, 41010, 0, 0)), 1091);
        int twice = Dues.add(x, TWICE, 3, 36006, 30, WEST);
        due("behind: twice", x.behind(twice, Dues.add(x, WORD, 3, 35999, 0, 0)), 100);
        due("behind: twice, no day above", x.behind(Dues.add(x, TWICE, 3, 35970, 29, WEST), Dues.add(x, WORD, 3, 35999, 0, 0)), NOT);
        due("behind: one and the same", x.behind(about, about), BAD);
        Dues.tell(x, 0, "1");
        x.comet(100500, 300, 109010, 5);
        due("behind: the last return", x.behind(Dues.add(x, WORD, 0, 118499, 0, 0), Dues.add(x, WORD, 0, 118501, 0, 0)), 2160);
        due("behind: the first return", x.behind(Dues.add(x, WORD, 0, 82501, 0, 0), Dues.add(x, WORD, 0, 82499, 0, 0)), 2040);
        due("behind 99", x.behind(0, 99), BAD);
        due("behind -1", x.behind(-1, 0), BAD);
    }

    private static void once() {
        SameStar x = new SameStar();
        due("once of none", x.once(-1), 0);
        Dues.add(x, WORD, 0, 1, 0, 0);
        Dues.add(x, WORD, 1, 1, 0, 0);
        x.word(20399, 0, 0);
        x.word(20399, 0, 2);
        x.word(20399, 0, 1);
        x.word(10399, 0, 0);
        due("once of all", x.once(-1), 2);
        due("once of 0", x.once(0), 1);
        due("once of 1", x.once(1), 2);
        due("once of 2", x.once(2), 2);
        due("once of 8", x.once(8), 0);
        due("once of 9", x.once(9), BAD);
        due("once of -2", x.once(-2), BAD);
        for (int i = 6; i < 150; i++) x.word(80099, 0, 0);
        due("once of many", x.once(8), 144);
    }
}
