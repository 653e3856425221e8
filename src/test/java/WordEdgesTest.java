/** Terms 3 and promises 12 to 22: each sentence that names a boundary case. */
public final class WordEdgesTest {
    private static final int BAD = SameStar.BAD, NOT = SameStar.NOT, FULL = SameStar.FULL, VOID = SameStar.VOID;
    private static final int LEAST = Integer.MIN_VALUE, MOST = Integer.MAX_VALUE;
    private static final int WORD = 0, PLACED = 1, SEEN = 2, COPIED = 3, MOVED = 4, NEW_STAR = 5, MEASURED = 6, TWICE = 7;
    private static final int EAST = 0, WEST = 1;

    public static void main(String[] args) throws Exception {
        Edges.runAll(WordEdgesTest.class);
    }

    private static void due(String call, long got, long want) {
        Edges.due(call, got, want);
    }

    /** A word of people 0: whether it fits return 0 of comet 0, as the first day or NOT. */
    private static void fit(SameStar x, int kind, int day, int slack, int more, int want) {
        int word = Dues.add(x, kind, 0, day, slack, more);
        due("fits kind " + kind + ", day " + day + ", slack " + slack + ", more " + more, x.fits(word, 0, 0), want);
    }

    private static void span(String of, SameStar x, int word, int i, int from, int to) {
        due(of + ": span " + i + " from", x.span(word, i, 0), from);
        due(of + ": span " + i + " to", x.span(word, i, 1), to);
    }

    // ---- terms 3: words and their spans

    @Says("WORDS 0 .. 149, as they come")
    static void mostWords() {
        SameStar x = new SameStar();
        for (int i = 0; i < 150; i++) due("word", x.word(99, i, 0), i);
        due("word 150", x.word(99, 0, 0), FULL);
        due("how many", x.count(2), 150);
        due("slack of 149", x.ofWord(149, 6), 149);
        due("ofWord 150", x.ofWord(150, 0), BAD);
    }

    @Says("y, m, d (0 .. 9999 each)")
    static void dateParts() {
        for (int v : new int[] {LEAST, -1, 0, 9999, 10000, MOST}) {
            int want = v == 0 || v == 9999 ? 1 : BAD;
            SameStar x = new SameStar();
            due("date y " + v, x.date(v, 1, 1), want);
            due("date m " + v, x.date(1, v, 1), want);
            due("date d " + v, x.date(1, 1, v), want);
        }
    }

    @Says("a REIGN (0 .. 19, or none)")
    static void reignsOfWords() {
        SameStar x = new SameStar();
        for (int reign = 0; reign < 20; reign++) x.reign(reign, 5, -1);
        int[][] wants = {{0, 0}, {19, 19}, {99, -1}};
        for (int i = 0; i < wants.length; i++) {
            due("word of reign " + wants[i][0], x.word(wants[i][0], 0, 0), i);
            due("its reign", x.ofWord(i, 5), wants[i][1]);
        }
        for (int reign = 20; reign < 99; reign++) due("word of reign " + reign, x.word(reign, 0, 0), BAD);
    }

    @Says("SLACK (0 .. 400 days)")
    static void slacks() {
        SameStar x = new SameStar();
        for (int slack : new int[] {LEAST, -1, 401, MOST}) due("slack " + slack, x.word(99, slack, 0), BAD);
        Dues.date(x, 5000);
        due("slack 0", x.word(99, 0, 0), 0);
        due("slack 400", x.word(99, 400, 0), 1);
        span("slack 0", x, 0, 0, 5000, 5000);
        span("slack 400", x, 1, 0, 4600, 5400);
    }

    @Says("PLACED and MEASURED: a LODGE")
    static void lodges() {
        for (int kind : new int[] {PLACED, MEASURED}) {
            SameStar x = new SameStar();
            for (int lodge : new int[] {LEAST, -1, 24, MOST}) due("kind " + kind + ", lodge " + lodge, x.word(100 * kind + 99, 0, lodge), BAD);
            due("kind " + kind + ", lodge 0", x.word(100 * kind + 99, 0, 0), 0);
            due("kind " + kind + ", lodge 23", x.word(100 * kind + 99, 0, 23), 1);
            due("its lodge", x.ofWord(1, 7), 23);
        }
    }

    @Says("LODGES 0 .. 23 have 15 DEGREES each.")
    static void lodgesOfDegrees() {
        int[][] wants = {{0, 0}, {14, 0}, {15, 1}, {29, 1}, {30, 2}, {179, 11}, {180, 12}, {344, 22}, {345, 23}, {359, 23}};
        for (int[] w : wants) {
            SameStar x = new SameStar();
            x.comet(36090, 40000, 100 * w[0] + 5, 5);
            for (int lodge = 0; lodge < 24; lodge++) fit(x, MEASURED, 36090, 0, lodge, lodge == w[1] ? 36090 : NOT);
        }
    }

    @Says("SEEN and TWICE: WEST (1) or EAST (0)")
    static void wests() {
        for (int kind : new int[] {SEEN, TWICE}) {
            SameStar x = new SameStar();
            for (int west : new int[] {LEAST, -1, 2, MOST}) due("kind " + kind + ", " + west, x.word(100 * kind + 99, 0, west), BAD);
            due("kind " + kind + ", east", x.word(100 * kind + 99, 0, 0), 0);
            due("kind " + kind + ", west", x.word(100 * kind + 99, 0, 1), 1);
            due("east", x.ofWord(0, 7), 0);
            due("west", x.ofWord(1, 7), 1);
        }
    }

    @Says("(its DEGREE less the SUN's, + 360, % 360, is below 180)")
    static void behindTheSun() {
        int[][] wants = {
            // pass, degree, whether it is west
            {36000, 15, 1}, {36000, 179, 1}, {36000, 180, 0}, {36000, 181, 0}, {36000, 345, 0},
            {36359, 14, 1}, {36359, 178, 1}, {36359, 179, 0}, {36359, 344, 0}, {36180, 195, 1}, {36180, 359, 1}, {36180, 0, 0}, {36180, 165, 0},
        };
        for (int[] w : wants) {
            SameStar x = new SameStar();
            x.comet(w[0], 40000, 100 * w[1] + 5, 5);
            fit(x, SEEN, w[0], 0, WEST, w[2] == 1 ? w[0] : NOT);
            fit(x, SEEN, w[0], 0, EAST, w[2] == 0 ? w[0] : NOT);
        }
    }

    @Says("COPIED: of an earlier WORD.")
    static void copies() {
        SameStar x = new SameStar();
        due("copied of itself", x.word(399, 0, 0), BAD);
        x.word(99, 0, 0);
        for (int of : new int[] {LEAST, -1, 1, 2, MOST}) due("copied of " + of, x.word(399, 0, of), BAD);
        due("copied of 0", x.word(399, 0, 0), 1);
        due("copied of a copy", x.word(399, 0, 1), 2);
        due("its word", x.ofWord(2, 7), 1);
    }

    @Says("REIGNS 0 .. 19: begin on one DAY or on two (told).")
    static void toldReigns() {
        SameStar x = new SameStar();
        Dues.tell(x, 10, "r");
        due("before it is told", x.word(19, 0, 0), BAD);
        x.reign(19, 7, -1);
        due("once it is told", x.word(19, 0, 0), 0);
        span("one day", x, 0, 0, 7, 7);
        span("one day", x, 0, 1, VOID, VOID);
        x.reign(19, 8, 9);
        span("two days", x, 0, 0, 8, 8);
        span("two days", x, 0, 1, 9, 9);
        x.reign(19, 6, -1);
        span("one day again", x, 0, 0, 6, 6);
        span("one day again", x, 0, 1, VOID, VOID);
    }

    @Says("for each DAY on which its REIGN begins (none: once) the DAY that its RECKONING gives, less SLACK to more SLACK")
    static void spansOfReigns() {
        SameStar x = new SameStar();
        x.reign(0, 100, -1);
        x.reign(1, 100, 50);
        Dues.tell(x, 10, "1000+r");
        for (int reign : new int[] {99, 0, 1}) x.word(reign, 3, 0);
        span("no reign", x, 0, 0, 997, 1003);
        span("no reign", x, 0, 1, VOID, VOID);
        span("a reign", x, 1, 0, 1097, 1103);
        span("a reign", x, 1, 1, VOID, VOID);
        span("a reign that began twice", x, 2, 0, 1097, 1103);
        span("a reign that began twice", x, 2, 1, 1047, 1053);
    }

    @Says("of COPIED those of its ROOT (by PEOPLE, y, m, d, REIGN, SLACK of that)")
    static void spansOfCopies() {
        SameStar x = new SameStar();
        x.reign(0, 100, 50);
        Dues.tell(x, 11, "1000*y+30*m+d+r");
        Dues.tell(x, 12, "7");
        x.date(1, 2, 3);
        x.word(10000, 5, 0);
        x.date(4, 5, 6);
        x.word(20399, 400, 0);
        x.word(30399, 0, 1);
        for (int word = 0; word < 3; word++) {
            span("word " + word, x, word, 0, 1158, 1168);
            span("word " + word, x, word, 1, 1108, 1118);
        }
    }

    @Says("there are as many as DAYS on which the REIGN begins (none: one), also such as are none")
    static void howManySpans() {
        SameStar x = new SameStar();
        x.reign(0, 100, -1);
        x.reign(1, 100, 50);
        Dues.tell(x, 10, "-1");
        for (int reign : new int[] {99, 0, 1}) x.word(reign, 0, 0);
        x.word(399, 0, 2);
        int[] wants = {1, 1, 2, 2};
        for (int i = 0; i < 4; i++) due("how many of " + i, x.ofWord(i, 9), wants[i]);
        for (int i = 0; i < 4; i++) due("no day of " + i, x.span(i, 0, 0), VOID);
    }

    @Says("(none: one)")
    static void oneSpanAlone() {
        SameStar x = Dues.opposite(0, 40000);
        int one = Dues.add(x, WORD, 0, 5000, 400, 0);
        int other = Dues.add(x, WORD, 0, 0, 400, 0);
        due("fits no day about day 0", x.fits(one, 0, 0), NOT);
        due("has none in common with one about day 0", x.evening(one, other), NOT);
        due("nor that with it", x.evening(other, one), NOT);
        due("right by no day about day 0", x.right(0, 0, 1), 1);
        x.reign(0, 5000, -1);
        x.reign(1, 5000, 4000);
        Dues.tell(x, 11, "r");
        for (int reign = 0; reign < 2; reign++) {
            int word = x.word(10000 + reign, 400, 0);
            due("fits no day about day 0", x.fits(word, 0, 0), NOT);
            due("has none in common with one about day 0", x.evening(word, other), NOT);
            due("nor that with it", x.evening(other, word), NOT);
        }
        due("right by no day about day 0", x.right(1, 0, 1), 0);
    }

    @Says("What a RECKONING gives is held within -2000000 .. 2000000 first.")
    static void heldReckonings() {
        String[] texts = {"2048*1024*1024-1", "2048*1024*1024", "2000*1000", "-2000*1000", "2000*1000+1", "-2000*1000-1", "2048*1024*1024-400"};
        for (String text : texts) {
            SameStar x = Dues.opposite(360000, 720);
            Dues.tell(x, 10, text);
            x.word(99, 400, 0);
            span(text, x, 0, 0, VOID, VOID);
            due(text + ": whose", x.whose(0, 0), VOID);
            due(text + ": right", x.right(0, 0, 1), 0);
        }
    }

    @Says("A SPAN is cut to DAYS 0 .. 999999; it may be none then.")
    static void cutSpans() {
        SameStar x = new SameStar();
        String[] texts = {"0", "5", "-5", "-6", "999999", "999994", "999999+5", "999999+6"};
        int[][] wants = {{0, 5}, {0, 10}, {0, 0}, {VOID, VOID}, {999994, 999999}, {999989, 999999}, {999999, 999999}, {VOID, VOID}};
        x.word(99, 5, 0);
        for (int i = 0; i < texts.length; i++) {
            Dues.tell(x, 10, texts[i]);
            span(texts[i], x, 0, 0, wants[i][0], wants[i][1]);
        }
    }

    @Says("(0 .. 999999 alone): one or two SPANS")
    static void daysAlone() {
        SameStar x = new SameStar();
        x.reign(0, 0, 999999);
        Dues.tell(x, 10, "r");
        x.word(0, 400, 0);
        span("both cut", x, 0, 0, 0, 400);
        span("both cut", x, 0, 1, 999599, 999999);
        Dues.tell(x, 10, "r*2-400");
        span("one cut, one of no days", x, 0, 0, 0, 0);
        span("one cut, one of no days", x, 0, 1, VOID, VOID);
        due("how many", x.ofWord(0, 9), 2);
    }

    // ---- terms 3: fitting

    @Says("on some DAY of a SPAN of it it CAN BE SEEN by its PEOPLE")
    static void someDayOfASpan() {
        SameStar x = Dues.opposite(36000, 40000);
        fit(x, WORD, 35875, 5, 0, 35880);
        fit(x, WORD, 35874, 5, 0, NOT);
        fit(x, WORD, 36125, 5, 0, 36120);
        fit(x, WORD, 36126, 5, 0, NOT);
        fit(x, WORD, 36000, 0, 0, 36000);
        fit(x, WORD, 36000, 400, 0, 35880);
        Dues.tell(x, 0, "p=1&e=7");
        fit(x, WORD, 36007, 0, 0, NOT);
        due("of the people that sees it", x.fits(Dues.add(x, WORD, 1, 36000, 7, 0), 0, 0), 36007);
        due("of that people, a day short", x.fits(Dues.add(x, WORD, 1, 36000, 6, 0), 0, 0), NOT);
        due("of that people, a day late", x.fits(Dues.add(x, WORD, 1, 36014, 6, 0), 0, 0), NOT);
    }

    @Says("PLACED: its DEGREE is in the LODGE (or within 7 of its nearest DEGREE)")
    static void placed() {
        int[][] wants = {
            // lodge, degrees: the last that is out, the first that is in, the last in, the first out
            {0, 352, 353, 21, 22}, {1, 7, 8, 36, 37}, {12, 172, 173, 201, 202}, {22, 322, 323, 351, 352}, {23, 337, 338, 6, 7},
        };
        for (int[] w : wants) {
            for (int i = 1; i <= 4; i++) {
                SameStar x = new SameStar();
                x.comet(36090, 40000, 100 * w[i] + 5, 5);
                fit(x, PLACED, 36090, 0, w[0], i == 2 || i == 3 ? 36090 : NOT);
            }
        }
    }

    @Says("MEASURED: in it")
    static void measured() {
        int[][] wants = {{0, 359, 0, 14, 15}, {1, 14, 15, 29, 30}, {12, 179, 180, 194, 195}, {23, 344, 345, 359, 0}};
        for (int[] w : wants) {
            for (int i = 1; i <= 4; i++) {
                SameStar x = new SameStar();
                x.comet(36090, 40000, 100 * w[i] + 5, 5);
                fit(x, MEASURED, 36090, 0, w[0], i == 2 || i == 3 ? 36090 : NOT);
            }
        }
    }

    // It stands in the east up to its pass, in the west from the day behind it on.
    @Says("SEEN: as told")
    static void seen() {
        SameStar x = Dues.opposite(36000, 40000);
        fit(x, SEEN, 36000, 0, EAST, 36000);
        fit(x, SEEN, 36000, 0, WEST, NOT);
        fit(x, SEEN, 36001, 0, EAST, NOT);
        fit(x, SEEN, 36001, 0, WEST, 36001);
        fit(x, SEEN, 35990, 10, WEST, NOT);
        fit(x, SEEN, 35990, 11, WEST, 36001);
        fit(x, SEEN, 36011, 10, EAST, NOT);
        fit(x, SEEN, 36011, 11, EAST, 36000);
    }

    @Says("TWICE: as told on one DAY and not so on another one of its SPANS")
    static void twice() {
        SameStar x = Dues.opposite(36000, 40000);
        fit(x, TWICE, 36000, 0, EAST, NOT);
        fit(x, TWICE, 36001, 0, WEST, NOT);
        fit(x, TWICE, 36000, 1, EAST, 35999);
        fit(x, TWICE, 36000, 1, WEST, 36001);
        fit(x, TWICE, 35990, 10, EAST, NOT);
        fit(x, TWICE, 35990, 11, EAST, 35979);
        fit(x, TWICE, 36011, 10, WEST, NOT);
        fit(x, TWICE, 36011, 11, WEST, 36001);
        fit(x, TWICE, 36000, 400, WEST, 36001);
        fit(x, TWICE, 36000, 400, EAST, 35880);
        Dues.tell(x, 0, "e<0|e=5");
        fit(x, TWICE, 36000, 4, EAST, NOT);
        fit(x, TWICE, 36000, 5, EAST, 35995);
        fit(x, TWICE, 36000, 5, WEST, 36005);
        fit(x, TWICE, 36005, 5, WEST, NOT);
        fit(x, TWICE, 36005, 6, WEST, 36005);
    }

    @Says("not so on another one of its SPANS")
    static void twiceOverSpans() {
        SameStar x = Dues.opposite(36000, 40000);
        Dues.tell(x, 11, "r");
        x.reign(0, 36020, 35980);
        x.word(10000 + 100 * TWICE, 0, WEST);
        x.word(10000 + 100 * TWICE, 0, EAST);
        due("west on the first span, east on the other", x.fits(0, 0, 0), 36020);
        due("east on the other span, west on the first", x.fits(1, 0, 0), 35980);
        x.reign(0, 36020, 36010);
        due("west on both", x.fits(0, 0, 0), NOT);
        x.reign(0, 36020, -1);
        due("west on one alone", x.fits(0, 0, 0), NOT);
        x.reign(0, 36020, 35879);
        due("far on the other", x.fits(0, 0, 0), NOT);
    }

    @Says("NEW STAR: TAIL is 0")
    static void newStar() {
        SameStar x = Dues.opposite(36000, 40000);
        fit(x, NEW_STAR, 36000, 0, 0, 36000);
        Dues.tell(x, 1, "e");
        fit(x, NEW_STAR, 36000, 0, 0, 36000);
        fit(x, NEW_STAR, 35999, 0, 0, 35999);
        fit(x, NEW_STAR, 36001, 0, 0, NOT);
        Dues.tell(x, 1, "p*99");
        fit(x, NEW_STAR, 36000, 0, 0, 36000);
        due("with a tail for its own people", x.fits(Dues.add(x, NEW_STAR, 1, 36000, 0, 0), 0, 0), NOT);
    }

    @Says("WORD, COPIED (by its own PEOPLE): no more")
    static void copied() {
        SameStar x = Dues.opposite(36000, 40000);
        Dues.tell(x, 0, "p=2&e=7");
        int root = Dues.add(x, MEASURED, 1, 36000, 7, 23);
        Dues.date(x, 0);
        x.word(20399, 0, root);
        x.word(30399, 0, root);
        due("the root", x.fits(root, 0, 0), NOT);
        due("copied by the people that sees it", x.fits(root + 1, 0, 0), 36007);
        due("copied by another one", x.fits(root + 2, 0, 0), NOT);
    }

    @Says("MOVED: within 10 days of the PASS")
    static void moved() {
        SameStar x = Dues.opposite(36000, 40000);
        fit(x, MOVED, 35989, 0, 0, NOT);
        fit(x, MOVED, 35990, 0, 0, 35990);
        fit(x, MOVED, 36010, 0, 0, 36010);
        fit(x, MOVED, 36011, 0, 0, NOT);
        fit(x, MOVED, 36000, 400, 0, 35990);
    }

    @Says("The least such DAY of all SPANS is told.")
    static void leastOfAllSpans() {
        SameStar x = Dues.opposite(36000, 40000);
        Dues.tell(x, 11, "r");
        int[][] wants = {{36050, 36010, 36007}, {36010, 36050, 36007}, {36010, 36012, 36007}, {35000, 36010, 36007}, {36010, 35000, 36007}, {35000, 999999, NOT}};
        for (int[] w : wants) {
            x.reign(0, w[0], w[1]);
            int word = x.word(10000, 3, 0);
            due("spans about " + w[0] + " and " + w[1], x.fits(word, 0, 0), w[2]);
        }
    }

    // Return 1 passes on day 36720 with the pull in it; the one day that lets e be 0 tells the move.
    private static SameStar widened(int wide) {
        SameStar x = new SameStar();
        x.great(20000, wide);
        x.comet(28800, 7920 - wide, 18099, 5);
        due("pass 1 by a pull of " + wide, x.pass(0, 1, 0), 36720);
        Dues.tell(x, 0, "e=0");
        return x;
    }

    @Says("it FITS with its PASS moved by -WIDE, -WIDE and a step, and so on, not above WIDE; a step is 1 + WIDE / 20.")
    static void moves() {
        for (int wide : new int[] {0, 1, 2, 19, 20, 21, 39, 40, 41, 59, 60}) {
            SameStar x = widened(wide);
            int step = 1 + wide / 20;
            for (int move = -wide - 1; move <= wide + 1; move++) {
                boolean is = move >= -wide && move <= wide && (move + wide) % step == 0;
                int word = Dues.add(x, WORD, 0, 36720 + move, 0, 0);
                due("wide " + wide + ", move " + move, x.perhaps(word, 0, 1), is ? move : NOT);
            }
        }
    }

    @Says("a step is 1 + WIDE / 20")
    static void greatWides() {
        SameStar x = greatlyWidened(0);
        int pass = x.pass(0, 60, 0);
        due("wide of 60", x.pass(0, 60, 1), 14400);
        int[][] wants = {
            // move, what is answered: a step is 721 days
            {-14401, NOT}, {-14400, -14400}, {-14399, NOT}, {-13680, NOT}, {-13679, -13679}, {20, 20}, {19, NOT}, {0, NOT}, {-701, -701}, {13719, 13719}, {14400, NOT}, {14440, NOT},
        };
        for (int[] w : wants) {
            // Its node lets it stand opposite the sun on that day.
            SameStar y = greatlyWidened((pass + w[0] + 180) % 360);
            due("the same pass", y.pass(0, 60, 0), pass);
            due("move " + w[0], y.perhaps(Dues.add(y, WORD, 0, pass + w[0], 0, 0), 0, 60), w[1]);
        }
    }

    // Of passes 20 and 999971, that are moved by up to 60 days, by steps of 4.
    @Says("A PASS below 0 or above 999999: there is no such RETURN")
    static void movedToNoPass() {
        SameStar x = new SameStar();
        x.great(20000, 60);
        x.comet(300, 280, 109010, 5);
        x.comet(999781, 250, 109010, 5);
        due("pass -1", x.pass(0, -1, 0), 20);
        due("pass 1", x.pass(1, 1, 0), 999971);
        Dues.tell(x, 0, "e=50|e=-50");
        due("by a pass on day 0", x.perhaps(Dues.add(x, WORD, 0, 50, 0, 0), 0, -1), -20);
        due("by a pass on day -4", x.perhaps(Dues.add(x, WORD, 0, 46, 0, 0), 0, -1), NOT);
        due("by a pass on day 80", x.perhaps(Dues.add(x, WORD, 0, 130, 0, 0), 0, -1), 60);
        due("by a pass on day 999999", x.perhaps(Dues.add(x, WORD, 0, 999949, 0, 0), 1, 1), 28);
        due("by a pass on day 1000003", x.perhaps(Dues.add(x, WORD, 0, 999953, 0, 0), 1, 1), NOT);
        due("by a pass on day 999911", x.perhaps(Dues.add(x, WORD, 0, 999861, 0, 0), 1, 1), -60);
    }

    // What is seen by a moved pass on one day tells nothing of another day that is as far from its pass.
    @Says("FITS PERHAPS: it FITS with its PASS moved")
    static void movedOnOtherDays() {
        SameStar x = widened(60);
        Dues.tell(x, 0, "d=10");
        due("on a day of the moon's 2", x.perhaps(Dues.add(x, WORD, 0, 36722, 0, 0), 0, 1), NOT);
        int word = Dues.add(x, WORD, 0, 36730, 0, 0);
        due("on a day of the moon's 10", x.perhaps(word, 0, 1), 0);
        due("fits", x.fits(word, 0, 1), 36730);
    }

    private static SameStar greatlyWidened(int node) {
        SameStar x = new SameStar();
        for (int i = 0; i < 4; i++) x.great(20000, 60);
        x.comet(500000, 1000, 100 * node + 99, 5);
        Dues.tell(x, 0, "e=0");
        return x;
    }

    @Says("ONE EVENING can be two WORDS: SPANS of both have a DAY in common.")
    static void oneEvening() {
        SameStar x = new SameStar();
        Dues.add(x, WORD, 0, 5000, 10, 0);
        int[][] wants = {{4979, NOT}, {4980, 4990}, {5000, 4990}, {5005, 4995}, {5020, 5010}, {5021, NOT}};
        for (int[] w : wants) {
            int other = Dues.add(x, WORD, 1, w[0], 10, 0);
            due("evening with one about " + w[0], x.evening(0, other), w[1]);
            due("evening of one about " + w[0], x.evening(other, 0), w[1]);
        }
    }

    @Says("one of which FITS a RETURN on some DAY below its PASS, the other one on some DAY above it: the first COMET and RETURN by which they are.")
    static void oneOnEachSide() {
        SameStar x = Dues.opposite(36000, 40000);
        int[] days = {35999, 36000, 36001};
        for (int day : days) Dues.add(x, WORD, 0, day, 0, 0);
        for (int i = 0; i < 3; i++) {
            for (int j = 0; j < 3; j++) {
                if (i != j) due("behind " + days[i] + ", " + days[j], x.behind(i, j), i + j == 2 && i != 1 ? 100 : NOT);
            }
        }
        int about = Dues.add(x, WORD, 0, 36000, 1, 0);
        due("one on both sides, one below", x.behind(about, 0), 100);
        due("one on both sides, one on the pass", x.behind(about, 1), NOT);
        due("one on both sides, one above", x.behind(2, about), 100);
        due("both on both sides", x.behind(Dues.add(x, WORD, 0, 36000, 1, 0), about), 100);
        due("120 ahead, 120 behind", x.behind(Dues.add(x, WORD, 0, 35880, 0, 0), Dues.add(x, WORD, 0, 36120, 0, 0)), 100);
        due("121 ahead", x.behind(Dues.add(x, WORD, 0, 35879, 0, 0), 2), NOT);
        due("121 behind", x.behind(0, Dues.add(x, WORD, 0, 36121, 0, 0)), NOT);
    }

    @Says("ROOT of a COPIED WORD: along what it is COPIED of to one that is not.")
    static void roots() {
        SameStar x = new SameStar();
        x.word(699, 0, 0);
        for (int i = 0; i < 149; i++) x.word(399, 0, i);
        for (int word : new int[] {0, 1, 2, 149}) due("root of " + word, x.ofWord(word, 8), 0);
        SameStar y = new SameStar();
        y.word(99, 0, 0);
        y.word(99, 0, 0);
        y.word(399, 0, 1);
        y.word(399, 0, 0);
        y.word(399, 0, 2);
        int[] wants = {0, 1, 1, 0, 1};
        for (int i = 0; i < 5; i++) due("root of " + i, y.ofWord(i, 8), wants[i]);
    }

    @Says("ONCE: of some WORDS (by PEOPLE, -1 all) how many unlike ROOTS.")
    static void once() {
        SameStar x = new SameStar();
        due("once of no words", x.once(-1), 0);
        x.word(99, 0, 0);
        x.word(80099, 0, 0);
        x.word(10399, 0, 0);
        x.word(10399, 0, 2);
        x.word(80399, 0, 0);
        x.word(30099, 0, 0);
        x.word(10399, 0, 5);
        int[][] wants = {{-1, 3}, {0, 1}, {1, 2}, {2, 0}, {3, 1}, {8, 2}};
        for (int[] w : wants) due("once of " + w[0], x.once(w[0]), w[1]);
        for (int people : new int[] {LEAST, -2, 9, MOST}) due("once of " + people, x.once(people), BAD);
    }

    @Says("of a told PEOPLE, without REIGN: n of them; it ends where the row is missing, ends (within a five, too), or one is not so.")
    static void wordsFromARow() {
        SameStar x = new SameStar();
        due("a missing row", x.words(8, 0, 0, 12), 0);
        for (int size = 0; size <= 11; size++) {
            x.row(0, 1, size);
            due("a row of " + size, x.words(8, 0, 0, 12), size / 5);
        }
        x.row(1, 1, 60);
        due("n of them", x.words(8, 1, 0, 3), 3);
        due("people of one", x.ofWord(0, 1), 8);
        due("reign of one", x.ofWord(0, 5), -1);
        for (int i = 5; i < 60; i += 5) {
            x.put(1, i, -1);
            due("one that is not so at " + i, x.words(8, 1, 0, 12), i / 5);
            x.put(1, i, 0);
        }
        due("behind one that is not so", x.words(8, 1, 5, 12), 11);
        x.put(1, 0, -1);
        due("one that is not so at first", x.words(8, 1, 0, 12), 0);
    }

    @Says("by fives y, m, d, SLACK, KIND (0, 4, 5 alone)")
    static void fivesThatAreSo() {
        int[][] so = {{0, 0, 0, 0, 0}, {9999, 9999, 9999, 400, 5}, {1, 2, 3, 4, 4}};
        for (int[] five : so) {
            SameStar x = new SameStar();
            x.row(0, 1, 5);
            for (int i = 0; i < 5; i++) x.put(0, i, five[i]);
            due("words", x.words(7, 0, 0, 1), 1);
            int[] whats = {2, 3, 4, 6, 0};
            for (int i = 0; i < 5; i++) due("ofWord " + whats[i], x.ofWord(0, whats[i]), five[i]);
        }
        int[][] notSo = {{-1, 10000}, {-1, 10000}, {-1, 10000}, {-1, 401}, {-1, 1, 2, 3, 6, 7, 8, 99}};
        for (int i = 0; i < 5; i++) {
            for (int v : notSo[i]) {
                SameStar x = new SameStar();
                x.row(0, 1, 5);
                x.put(0, i, v);
                due("words with " + v + " at " + i, x.words(7, 0, 0, 1), 0);
                due("how many", x.count(2), 0);
            }
        }
    }

    // ---- promises

    @Says("A WORD of a KIND (0 .. 7): its number. pkr: 10000 times the PEOPLE, 100 times the KIND, and the REIGN (99: none).")
    static void word() {
        SameStar x = new SameStar();
        x.reign(0, 5, -1);
        for (int pkr : new int[] {LEAST, -10099, -99, -1, 899, 9999, 80899, 90000, 90099, 100099, MOST}) due("word " + pkr, x.word(pkr, 0, 0), BAD);
        due("the least", x.word(0, 0, 0), 0);
        due("the greatest", x.word(80799, 0, 0), 1);
        int[] whats = {0, 1, 5};
        int[][] wants = {{0, 0, 0}, {7, 8, -1}};
        for (int word = 0; word < 2; word++) {
            for (int i = 0; i < 3; i++) due("ofWord " + word + ", " + whats[i], x.ofWord(word, whats[i]), wants[word][i]);
        }
    }

    @Says("more: LODGE (of 1, 6), WEST (2, 7), WORD (3), else any.")
    static void anyMore() {
        SameStar x = new SameStar();
        int word = 0;
        for (int kind : new int[] {WORD, MOVED, NEW_STAR}) {
            for (int more : new int[] {LEAST, -1, 0, 99, MOST}) {
                due("word of kind " + kind + ", more " + more, x.word(100 * kind + 99, 0, more), word);
                due("ofWord 7", x.ofWord(word, 7), -1);
                word++;
            }
        }
    }

    @Says("BAD (a REIGN that was not told), FULL.")
    static void wordBadThenFull() {
        SameStar x = new SameStar();
        x.reign(4, 5, -1);
        for (int reign = 0; reign < 20; reign++) due("word of reign " + reign, x.word(reign, 0, 0), reign == 4 ? 0 : BAD);
        for (int i = 1; i < 150; i++) x.word(99, 0, 0);
        due("a good one where none has room", x.word(99, 0, 0), FULL);
        for (int pkr : new int[] {5, 899, 90099, 199, 399}) due("a bad one where none has room", x.word(pkr, 0, -1), BAD);
        due("a bad slack where none has room", x.word(99, 401, 0), BAD);
    }

    @Says("y, m, d of the next WORD (0 at first; they stay for further ones): 1. BAD.")
    static void date() {
        SameStar x = new SameStar();
        x.word(99, 0, 0);
        x.date(1, 2, 3);
        x.word(99, 0, 0);
        x.word(99, 0, 0);
        due("a bad year", x.date(-1, 5, 6), BAD);
        due("a bad month", x.date(5, 10000, 6), BAD);
        due("a bad day", x.date(5, 6, -1), BAD);
        x.word(99, 0, 0);
        due("a bad word", x.word(99, 401, 0), BAD);
        x.word(99, 0, 0);
        int[][] wants = {{0, 0, 0}, {1, 2, 3}, {1, 2, 3}, {1, 2, 3}, {1, 2, 3}};
        for (int word = 0; word < 5; word++) {
            for (int i = 0; i < 3; i++) due("ofWord " + word + ", " + (i + 2), x.ofWord(word, i + 2), wants[word][i]);
        }
    }

    @Says("from place i on, n (1 .. 12) of them, of a PEOPLE: how many came (0 with i below 0). BAD, -12 (no ROW of shorts; a PAGE that holds nothing is missing). (date() stays.)")
    static void words() {
        SameStar x = new SameStar();
        x.date(1, 2, 3);
        x.row(0, 1, 60);
        for (int n : new int[] {LEAST, -1, 0, 13, MOST}) due("n " + n, x.words(0, 0, 0, n), BAD);
        for (int people : new int[] {LEAST, -1, 9, MOST}) due("people " + people, x.words(people, 0, 0, 1), BAD);
        for (int page : new int[] {LEAST, -1, 6, MOST}) due("page " + page, x.words(0, page, 0, 1), BAD);
        for (int i : new int[] {LEAST, -5, -1, 56, 60, 61, MOST - 4, MOST}) due("from " + i, x.words(0, 0, i, 12), 0);
        due("how many", x.count(2), 0);
        due("n 12", x.words(0, 0, 0, 12), 12);
        due("n 1", x.words(0, 0, 55, 1), 1);
        due("from the last five on", x.words(0, 0, 55, 12), 1);
        for (int sort : new int[] {0, 2, 3, 4}) {
            x.row(1, sort, 60);
            due("a row of " + sort, x.words(0, 1, 0, 1), -12);
            due("a row of " + sort + ", n 13", x.words(0, 1, 0, 13), BAD);
        }
        x.keep(1, 0);
        due("a word", x.words(0, 1, 0, 1), -12);
        x.keep(1, -1);
        due("nothing", x.words(0, 1, 0, 1), 0);
        due("nothing, from -1 on", x.words(0, 1, -1, 1), 0);
        due("nothing, people 9", x.words(9, 1, 0, 1), BAD);
        x.word(99, 0, 0);
        for (int i = 0; i < 3; i++) due("the date stays", x.ofWord(14, i + 2), i + 1);
    }

    @Says("5 REIGN (-1), 6 SLACK, 7 LODGE, WEST or WORD (-1 without), 8 ROOT (itself, if it is not COPIED), 9 how many SPANS. BAD.")
    static void ofWord() {
        SameStar x = new SameStar();
        x.word(99, 9, 0);
        due("reign", x.ofWord(0, 5), -1);
        due("more", x.ofWord(0, 7), -1);
        due("root", x.ofWord(0, 8), 0);
        due("spans", x.ofWord(0, 9), 1);
        for (int what : new int[] {LEAST, -1, 10, MOST}) due("what " + what, x.ofWord(0, what), BAD);
        for (int word : new int[] {LEAST, -1, 1, 149, 150, MOST}) due("word " + word, x.ofWord(word, 0), BAD);
    }

    @Says("SPAN i (0, 1) of a WORD: the first DAY (what 0), the last one (1). VOID: BAD (no such SPAN), or no DAY of it is 0 .. 999999.")
    static void span() {
        SameStar x = new SameStar();
        x.reign(0, 100, 50);
        Dues.tell(x, 10, "r-75");
        x.word(0, 24, 0);
        span("a day and none", x, 0, 0, 1, 49);
        span("a day and none", x, 0, 1, VOID, VOID);
        for (int i : new int[] {LEAST, -1, 2, MOST}) due("i " + i, x.span(0, i, 0), VOID);
        for (int what : new int[] {LEAST, -1, 2, MOST}) due("what " + what, x.span(0, 0, what), VOID);
        for (int word : new int[] {LEAST, -1, 1, MOST}) due("word " + word, x.span(word, 0, 0), VOID);
        x.reign(0, 100, 200);
        for (int i : new int[] {LEAST, -1, 2, 3, MOST}) due("i " + i + " of two that have days", x.span(0, i, 0), VOID);
        span("two that have days", x, 0, 1, 101, 149);
    }

    @Says("FITS a WORD RETURN k of a COMET: the first DAY; NOT. BAD (ahead of that); NOT too: no such RETURN.")
    static void fitsBadThenNot() {
        SameStar x = Dues.opposite(36000, 40000);
        int word = Dues.add(x, WORD, 0, 36000, 5, 0);
        due("fits", x.fits(word, 0, 0), 35995);
        due("fits not", x.fits(word, 0, 1), NOT);
        due("no such return", x.fits(word, 0, -1), NOT);
        for (int k : new int[] {LEAST, -61, 61, MOST}) due("k " + k, x.fits(word, 0, k), BAD);
        for (int w : new int[] {LEAST, -1, 1, MOST}) due("word " + w, x.fits(w, 0, 0), BAD);
        for (int comet : new int[] {LEAST, -1, 1, MOST}) due("comet " + comet, x.fits(word, comet, 0), BAD);
        due("no such return, no such word", x.fits(1, 0, -1), BAD);
    }

    @Says("the least move of the PASS (by size; of like ones the one below 0) by which it FITS; NOT. VOID: BAD.")
    static void perhaps() {
        SameStar x = widened(19);
        int word = Dues.add(x, WORD, 0, 36720, 0, 0);
        due("no move", x.perhaps(word, 0, 1), 0);
        Dues.tell(x, 0, "e=5|e=-5");
        due("of like ones the one below 0", x.perhaps(word, 0, 1), -5);
        Dues.tell(x, 0, "e=5|e=-4");
        due("the least, above 0", x.perhaps(word, 0, 1), 4);
        Dues.tell(x, 0, "e=4|e=-5");
        due("the least, below 0", x.perhaps(word, 0, 1), -4);
        Dues.tell(x, 0, "e=19|e=-19");
        due("of the least and the greatest the one below 0", x.perhaps(word, 0, 1), -19);
        Dues.tell(x, 0, "e=-19");
        due("the greatest", x.perhaps(word, 0, 1), 19);
        Dues.tell(x, 0, "e=20");
        due("none", x.perhaps(word, 0, 1), NOT);
        Dues.tell(x, 0, "1");
        due("return 0 alone has no moves", x.perhaps(Dues.add(x, WORD, 0, 28921, 0, 0), 0, 0), NOT);
        for (int k : new int[] {LEAST, -61, 61, MOST}) due("k " + k, x.perhaps(word, 0, k), VOID);
        for (int w : new int[] {LEAST, -1, 2, MOST}) due("word " + w, x.perhaps(w, 0, 1), VOID);
        for (int comet : new int[] {LEAST, -1, 1, MOST}) due("comet " + comet, x.perhaps(word, comet, 1), VOID);
        due("no such return", x.perhaps(word, 0, -60), NOT);
    }

    @Says("The first RETURN of a COMET that a WORD FITS (the first k, from -60 on). VOID: BAD, or none.")
    static void whose() {
        SameStar x = Dues.opposite(360000, 720);
        int[][] wants = {{316800 - 121, VOID}, {316800 - 120, -60}, {360000, 0}, {360000 + 360, VOID}, {403200 + 120, 60}, {403200 + 121, VOID}, {403920, VOID}};
        for (int[] w : wants) due("whose is " + w[0], x.whose(Dues.add(x, WORD, 0, w[0], 0, 0), 0), w[1]);
        due("the first of many", x.whose(Dues.add(x, WORD, 0, 360000, 400, 0), 0), 0);
        due("the first of two", x.whose(Dues.add(x, WORD, 0, 360360, 240, 0), 0), 0);
        due("the other of two", x.whose(Dues.add(x, WORD, 0, 360361, 240, 0), 0), 1);
        due("the first of three", x.whose(Dues.add(x, WORD, 0, 359800, 400, 0), 0), -1);
        int words = x.count(2);
        for (int word : new int[] {LEAST, -1, words, MOST}) due("word " + word, x.whose(word, 0), VOID);
        for (int comet : new int[] {LEAST, -1, 1, MOST}) due("comet " + comet, x.whose(0, comet), VOID);
    }

    @Says("ONE EVENING: the first DAY in common; NOT. BAD.")
    static void evening() {
        SameStar x = new SameStar();
        x.reign(0, 9000, 5000);
        x.reign(1, 5004, 9004);
        Dues.tell(x, 10, "r");
        x.word(0, 2, 0);
        x.word(1, 2, 0);
        x.word(1, 1, 0);
        due("two spans each", x.evening(0, 1), 5002);
        due("the other way around", x.evening(1, 0), 5002);
        due("a day short", x.evening(0, 2), NOT);
        due("with itself", x.evening(0, 0), 4998);
        Dues.tell(x, 10, "-3");
        due("no days, with itself", x.evening(0, 0), NOT);
        Dues.tell(x, 10, "-2");
        due("day 0 alone", x.evening(0, 1), 0);
        for (int word : new int[] {LEAST, -1, 3, MOST}) {
            due("word " + word, x.evening(word, 0), BAD);
            due("other " + word, x.evening(0, word), BAD);
        }
    }

    @Says("BEHIND THE SUN: 1000 times the COMET, and 100 + the RETURN; NOT. BAD (ahead of that; one and the same).")
    static void behind() {
        SameStar x = Dues.opposite(360000, 720);
        for (int i = 1; i < 11; i++) x.comet(0, 40000, 5, 0);
        Dues.addOpposite(x, 720000, 40000);
        int[][] wants = {{316800, 40}, {316080, NOT}, {360000 - 720, 99}, {360000, 100}, {360720, 101}, {403200, 160}, {403920, NOT}, {720000, 11100}};
        for (int[] w : wants) {
            int before = Dues.add(x, WORD, 0, w[0] - 1, 0, 0);
            int after = Dues.add(x, WORD, 0, w[0] + 1, 0, 0);
            due("behind about " + w[0], x.behind(before, after), w[1]);
            due("the other way around", x.behind(after, before), w[1]);
        }
        for (int word : new int[] {LEAST, -1, 16, MOST}) {
            due("word " + word, x.behind(word, 0), BAD);
            due("other " + word, x.behind(0, word), BAD);
        }
        int about = Dues.add(x, WORD, 0, 360000, 5, 0);
        due("one and the same", x.behind(about, about), BAD);
        due("the first comet of two", x.behind(about, Dues.add(x, WORD, 0, 360000, 5, 0)), 100);
    }

    @Says("ONCE of a PEOPLE (-1: all). BAD.")
    static void onceOfAPeople() {
        SameStar x = new SameStar();
        for (int i = 0; i < 150; i++) x.word(10000 * (i % 9) + 99, 0, 0);
        due("of all", x.once(-1), 150);
        due("of 0", x.once(0), 17);
        due("of 8", x.once(8), 16);
        due("of 9", x.once(9), BAD);
        due("of -2", x.once(-2), BAD);
    }
}
