/** Terms 1 and promises 1 to 7, 30, 32, 33: each sentence that names a boundary case. */
public final class SkyEdgesTest {
    private static final int BAD = SameStar.BAD, NOT = SameStar.NOT, FULL = SameStar.FULL, STATE = SameStar.STATE, VOID = SameStar.VOID;
    private static final int LEAST = Integer.MIN_VALUE, MOST = Integer.MAX_VALUE;

    public static void main(String[] args) throws Exception {
        Edges.runAll(SkyEdgesTest.class);
    }

    private static void due(String call, long got, long want) {
        Edges.due(call, got, want);
    }

    // ---- terms 1

    @Says("DAYS are ints 0 .. 999999")
    static void days() {
        for (int day : new int[] {LEAST, -1, 0, 999999, 1000000, MOST}) {
            boolean is = day >= 0 && day <= 999999;
            SameStar x = Dues.opposite(day == 0 ? 0 : 999999, 40000);
            due("comet on " + day, x.comet(day, 200, 5, 0), is ? 1 : BAD);
            due("stands on " + day, x.stands(0, 0, day, 1), is ? 99 : BAD);
            due("seen on " + day, x.seen(0, 0, day), is ? 0 : VOID);
            due("reign on " + day, x.reign(0, day, -1), is ? 1 : BAD);
            due("watch from " + day, x.watch(0, day, 999999), is ? 1 : BAD);
            due("watch to " + day, x.watch(0, 0, day), is ? 2 : BAD);
            due("observed on " + day, x.observed(day, 0), is ? 1 : BAD);
            x.forget();
            x.observed(500000, 0);
            x.observed(500000, 0);
            due("paths about " + day, x.paths(day, 0, 0), is ? 0 : BAD);
        }
    }

    @Says("DEGREES 0 .. 359")
    static void degrees() {
        SameStar x = new SameStar();
        due("comet, node 360", x.comet(0, 200, 36005, 0), BAD);
        due("comet, node 359", x.comet(3600, 200, 35910, 0), 0);
        due("comet, node 0", x.comet(3600, 200, 10, 0), 1);
        due("359 and 45 more", x.stands(0, 0, 3610, 0), 44);
        due("359 and 8 more", x.stands(0, 0, 3601, 0), 7);
        due("0 and 45 less", x.stands(1, 0, 3590, 0), 315);
        due("0 and 8 less", x.stands(1, 0, 3599, 0), 352);
        due("observed at 360", x.observed(0, 360), BAD);
        due("observed at -1", x.observed(0, -1), BAD);
        due("observed at 359", x.observed(0, 359), 1);
        due("observed at 0", x.observed(0, 0), 2);
    }

    @Says("the SUN stands at DAY % 360")
    static void sun() {
        int[][] wants = {{359, 1}, {360, 0}, {361, 1}, {719, 1}, {720, 0}, {0, 0}, {540, 180}, {541, 179}, {999999, 81}};
        for (int[] w : wants) {
            SameStar x = new SameStar();
            x.comet(w[0], 40000, 5, 0);
            due("degree 0 apart of the sun on " + w[0], x.stands(0, 0, w[0], 2), w[1]);
        }
    }

    @Says("APART of two DEGREES: the lesser way around, 0 .. 180.")
    static void apart() {
        int[][] wants = {{0, 0}, {1, 1}, {179, 179}, {180, 180}, {181, 179}, {359, 1}};
        for (int[] w : wants) {
            SameStar x = new SameStar();
            x.comet(3600, 40000, 100 * w[0] + 5, 0);
            x.comet(3600 + 359, 40000, 100 * ((w[0] + 359) % 360) + 5, 0);
            due("apart of 0 and " + w[0], x.stands(0, 0, 3600, 2), w[1]);
            due("apart of 359 and " + (w[0] + 359) % 360, x.stands(1, 0, 3959, 2), w[1]);
        }
    }

    @Says("GREAT BODIES 0 .. 3, as they come")
    static void fourGreats() {
        SameStar x = new SameStar();
        for (int i = 0; i < 4; i++) due("great", x.great(100, 1), i);
        due("great, the fifth", x.great(100, 1), FULL);
        due("how many", x.count(0), 4);
        x.comet(5000, 300, 5, 0);
        due("what all four pull", x.pass(0, 1, 1), 4);
    }

    @Says("a ROUND (100 .. 20000 days)")
    static void rounds() {
        for (int round : new int[] {LEAST, -100, 0, 99, 20001, MOST}) due("great " + round, new SameStar().great(round, 5), BAD);
        for (int round : new int[] {100, 20000}) due("great " + round, new SameStar().great(round, 5), 0);
    }

    @Says("a PULL (0 .. 60 days)")
    static void pulls() {
        for (int pull : new int[] {LEAST, -1, 61, MOST}) due("great " + pull, new SameStar().great(100, pull), BAD);
        for (int pull : new int[] {0, 60}) {
            SameStar x = new SameStar();
            due("great " + pull, x.great(100, pull), 0);
            x.comet(5000, 300, 5, 0);
            due("pulled by " + pull, x.pass(0, 1, 0), 5300 + pull);
        }
    }

    @Says("COMETS 0 .. 11, as they come")
    static void twelveComets() {
        SameStar x = new SameStar();
        for (int i = 0; i < 12; i++) due("comet", x.comet(i, 200, 5, 0), i);
        due("comet, the thirteenth", x.comet(12, 200, 5, 0), FULL);
        due("how many", x.count(1), 12);
        due("the last one", x.ofComet(11, 0), 11);
        due("one more", x.ofComet(12, 0), VOID);
    }

    @Says("a PASS (a DAY on which it was nearest to the SUN)")
    static void passIsADay() {
        for (int pass : new int[] {LEAST, -1, 1000000, MOST}) due("comet " + pass, new SameStar().comet(pass, 200, 5, 0), BAD);
        for (int pass : new int[] {0, 999999}) {
            SameStar x = new SameStar();
            due("comet " + pass, x.comet(pass, 200, 5, 0), 0);
            due("its pass", x.pass(0, 0, 0), pass);
        }
    }

    @Says("a SPAN (200 .. 40000 days)")
    static void spans() {
        for (int span : new int[] {LEAST, -200, 0, 199, 40001, MOST}) due("comet " + span, new SameStar().comet(0, span, 5, 0), BAD);
        for (int span : new int[] {200, 40000}) {
            SameStar x = new SameStar();
            due("comet " + span, x.comet(0, span, 5, 0), 0);
            due("its next pass", x.pass(0, 1, 0), span);
        }
    }

    @Says("a NODE (0 .. 359)")
    static void nodes() {
        for (int path : new int[] {36005, 36099, 99905, 136005, 199999}) due("comet " + path, new SameStar().comet(0, 200, path, 0), BAD);
        int[][] wants = {{5, 0}, {105, 1}, {35905, 359}, {100005, 0}, {135999, 359}};
        for (int[] w : wants) {
            SameStar x = new SameStar();
            due("comet " + w[0], x.comet(0, 200, w[0], 0), 0);
            due("node of " + w[0], x.ofComet(0, 2), w[1]);
        }
    }

    @Says("a REACH Q (5 .. 99)")
    static void reaches() {
        for (int path : new int[] {0, 1, 4, 100, 104, 100000, 100004, 35904}) due("comet " + path, new SameStar().comet(0, 200, path, 0), BAD);
        int[][] wants = {{5, 5}, {99, 99}, {105, 5}, {100005, 5}, {100099, 99}, {35999, 99}};
        for (int[] w : wants) {
            SameStar x = new SameStar();
            due("comet " + w[0], x.comet(0, 200, w[0], 0), 0);
            due("reach of " + w[0], x.ofComet(0, 3), w[1]);
        }
    }

    @Says("a WAY (1, -1)")
    static void ways() {
        int[][] wants = {{5, 1}, {35999, 1}, {100005, -1}, {135999, -1}};
        for (int[] w : wants) {
            SameStar x = new SameStar();
            x.comet(36000, 200, w[0], 0);
            due("way of " + w[0], x.ofComet(0, 4), w[1]);
            due("turned by it", (x.stands(0, 0, 36120, 0) - x.ofComet(0, 2) + 360) % 360 < 180 ? 1 : -1, w[1]);
        }
    }

    @Says("BRIGHT (0 .. 9)")
    static void brights() {
        for (int bright : new int[] {LEAST, -1, 10, MOST}) due("comet " + bright, new SameStar().comet(0, 200, 5, bright), BAD);
        for (int bright : new int[] {0, 9}) {
            SameStar x = new SameStar();
            due("comet " + bright, x.comet(0, 200, 5, bright), 0);
            due("its bright", x.ofComet(0, 5), bright);
        }
    }

    @Says("RETURNS of a COMET are numbered k (0: its PASS; 1, 2, .. behind it; -1, -2, .. ahead).")
    static void returnNumbers() {
        SameStar x = new SameStar();
        x.comet(5000, 300, 5, 0);
        for (int k = -2; k <= 2; k++) due("pass of " + k, x.pass(0, k, 0), 5000 + 300 * k);
    }

    @Says("T and SPAN, and for each GREAT BODY its PULL more")
    static void pullOfEach() {
        SameStar x = new SameStar();
        x.comet(5000, 300, 5, 0);
        int[] wants = {5300, 5301, 5303, 5307, 5315};
        for (int i = 0; i <= 4; i++) {
            due("pass 1 by " + i + " great bodies", x.pass(0, 1, 0), wants[i]);
            x.great(20000, 1 << i);
        }
    }

    @Says("if T % ROUND is less than half its ROUND (2 (T % ROUND) below ROUND), else its PULL less")
    static void halfARound() {
        int[][] wants = {
            // round, pass, what the pull of 10 does
            {1000, 2000, 10}, {1000, 2499, 10}, {1000, 2500, -10}, {1000, 2501, -10}, {1000, 2999, -10}, {1000, 3000, 10}, {1000, 0, 10},
            {101, 101, 10}, {101, 151, 10}, {101, 152, -10}, {101, 201, -10}, {101, 202, 10}, {20000, 9999, 10}, {20000, 10000, -10},
        };
        for (int[] w : wants) {
            SameStar x = new SameStar();
            x.great(w[0], 10);
            x.comet(w[1], 300, 5, 0);
            due("round " + w[0] + ", pass " + w[1], x.pass(0, 1, 0), w[1] + 300 + w[2]);
        }
    }

    private static void ahead(String of, int pass, int span, int want, int... greats) {
        SameStar x = new SameStar();
        for (int i = 0; i < greats.length; i += 2) x.great(greats[i], greats[i + 1]);
        x.comet(pass, span, 5, 0);
        due("the pass ahead of " + pass + ": " + of, x.pass(0, -1, 0), want);
    }

    @Says("that on the greatest day U below T (T less SPAN less all PULLS .. T less SPAN and all PULLS) whose next PASS is T")
    static void greatestAhead() {
        ahead("the greater of 5490 and 5510", 5800, 300, 5510, 1000, 10);
        ahead("the lesser one alone", 5785, 300, 5475, 1000, 10);
        ahead("the greater one alone", 5900, 300, 5610, 1000, 10);
        ahead("less all pulls", 5430, 300, 5100, 1000, 10, 1000, 20);
        ahead("and all pulls", 5870, 300, 5600, 1000, 10, 1000, 20);
        ahead("one more, one less", 15310, 300, 15020, 1000, 10, 20000, 20);
    }

    // 200 days on and four pulls back: one on day T comes to T again, one on day T and 40 comes back to T.
    @Says("U below T")
    static void belowThePass() {
        ahead("not itself", 15000, 200, 14800, 20000, 50, 20000, 50, 20000, 50, 20000, 50);
        ahead("none behind it", 15000, 200, 14800, 20000, 60, 20000, 60, 20000, 60, 20000, 60);
        ahead("the day ahead", 15001, 201, 15000, 20000, 50, 20000, 50, 20000, 50, 20000, 50);
        ahead("one far ahead, for none behind it counts", 5000, 200, 4560, 20000, 60, 20000, 60, 20000, 60, 20000, 60);
    }

    @Says("if there is none (at 0 or behind), T less SPAN")
    static void noneAhead() {
        ahead("none comes there", 5300, 300, 5000, 1000, 10);
        ahead("0 is a day", 310, 300, 0, 1000, 10);
        ahead("day -1 is none", 309, 300, 9, 1000, 10);
        ahead("day -10 is none", 300, 300, 0, 1000, 10);
        ahead("no great bodies", 300, 300, 0);
    }

    @Says("A PASS below 0 or above 999999: there is no such RETURN")
    static void returnsAtTheEnds() {
        SameStar x = new SameStar();
        x.comet(999799, 200, 5, 0);
        x.comet(999800, 200, 5, 0);
        x.comet(200, 200, 5, 0);
        x.comet(199, 200, 5, 0);
        due("a pass on 999999", x.pass(0, 1, 0), 999999);
        due("a pass on 1000000", x.pass(1, 1, 0), NOT);
        due("a pass on 0", x.pass(2, -1, 0), 0);
        due("a pass on -1", x.pass(3, -1, 0), NOT);
    }

    // Pulled on to 1000340 first, then back by 40 days each time: on 999980 it would be at last.
    @Says("nor any beyond it")
    static void noneBeyond() {
        SameStar x = new SameStar();
        for (int i = 0; i < 4; i++) x.great(11428, 60);
        x.comet(999900, 200, 5, 0);
        for (int k = 1; k <= 60; k++) due("pass " + k, x.pass(0, k, 0), NOT);
        due("foretold 10", x.foretold(0, 10, 15, 0), VOID);
        x.comet(100, 200, 5, 0);
        for (int k = -1; k >= -60; k--) due("pass " + k, x.pass(1, k, 0), NOT);
    }

    // By pulls a return can come to be none that was one before, and those beyond it with it.
    @Says("there is no such RETURN, nor any beyond it")
    static void noneBeyondOnceAGreatBodyComes() {
        SameStar x = new SameStar();
        x.comet(999000, 300, 5, 0);
        x.comet(1000, 300, 5, 0);
        due("pass 3", x.pass(0, 3, 0), 999900);
        due("pass -3", x.pass(1, -3, 0), 100);
        x.great(2000, 60);
        int[] behind = {999000, 999240, 999480, 999720, 999960};
        for (int k = 1; k <= 4; k++) due("pass " + k + " by a pull back", x.pass(0, k, 0), behind[k]);
        due("pass 5 by a pull back", x.pass(0, 5, 0), NOT);
        int[] ahead = {1000, 640, 280};
        for (int k = 1; k <= 2; k++) due("pass -" + k + " by a pull on", x.pass(1, -k, 0), ahead[k]);
        for (int k = 3; k <= 60; k++) due("pass -" + k + " by a pull on", x.pass(1, -k, 0), NOT);
        SameStar z = new SameStar();
        z.comet(2000, 200, 5, 0);
        due("pass -10", z.pass(0, -10, 0), 0);
        for (int i = 0; i < 4; i++) z.great(20000, 60);
        due("pass -4 by four pulls", z.pass(0, -4, 0), 240);
        due("pass -5 by four pulls", z.pass(0, -5, 0), 40);
        for (int k = 6; k <= 60; k++) due("pass -" + k + " by four pulls", z.pass(0, -k, 0), NOT);
        SameStar y = new SameStar();
        y.comet(999390, 300, 5, 0);
        due("pass 2", y.pass(0, 2, 0), 999990);
        y.great(20000, 0);
        due("pass 2 by no pull", y.pass(0, 2, 0), 999990);
        y.great(100, 60);
        due("pass 1 by a pull back", y.pass(0, 1, 0), 999630);
        due("pass 2 by a pull on", y.pass(0, 2, 0), 999990);
        y.great(150, 60);
        due("pass 1 by two pulls", y.pass(0, 1, 0), 999570);
        due("pass 2 by two pulls", y.pass(0, 2, 0), 999750);
        for (int k = 3; k <= 60; k++) due("pass " + k + " by two pulls", y.pass(0, k, 0), NOT);
    }

    @Says("at most 60 either way")
    static void sixtyReturns() {
        SameStar x = Dues.opposite(360000, 720);
        due("pass 60", x.pass(0, 60, 0), 403200);
        due("pass -60", x.pass(0, -60, 0), 316800);
        due("pass 61", x.pass(0, 61, 0), BAD);
        due("pass -61", x.pass(0, -61, 0), BAD);
        due("seen by 60", x.seen(0, 0, 403320), 60);
        due("seen where 61 would be", x.seen(0, 0, 403920), VOID);
        due("seen by -60", x.seen(0, 0, 316680), -60);
        due("seen where -61 would be", x.seen(0, 0, 316080), VOID);
    }

    @Says("WIDE of RETURN k: the number of steps from 0 times the sum of all PULLS.")
    static void wide() {
        SameStar x = new SameStar();
        x.comet(500000, 300, 5, 0);
        due("wide of 60 without great bodies", x.pass(0, 60, 1), 0);
        for (int i = 0; i < 4; i++) x.great(20000, 60);
        due("wide of 0", x.pass(0, 0, 1), 0);
        due("wide of 1", x.pass(0, 1, 1), 240);
        due("wide of -1", x.pass(0, -1, 1), 240);
        due("wide of 60", x.pass(0, 60, 1), 14400);
        due("wide of -60", x.pass(0, -60, 1), 14400);
    }

    @Says("e = d less T (-120 .. 120, else it is FAR)")
    static void far() {
        SameStar x = Dues.opposite(36000, 40000);
        for (int what = 0; what <= 3; what++) {
            due("121 ahead, " + what, x.stands(0, 0, 35879, what), NOT);
            due("121 behind, " + what, x.stands(0, 0, 36121, what), NOT);
        }
        due("distance 120 ahead", x.stands(0, 0, 35880, 1), 219);
        due("distance 120 behind", x.stands(0, 0, 36120, 1), 219);
        due("on day 0", x.stands(0, 0, 0, 1), NOT);
        due("on day 999999", x.stands(0, 0, 999999, 1), NOT);
    }

    @Says("DEGREE (NODE + WAY 90 e / (size of e + Q) (cut) + 360) % 360")
    static void turned() {
        int[][] wants = {
            // node, way, reach, e, degree
            {90, 1, 10, 0, 90}, {90, 1, 10, 7, 127}, {90, 1, 10, -7, 53}, {90, -1, 10, 7, 53}, {90, -1, 10, -7, 127}, {0, 1, 10, -1, 352},
            {0, -1, 5, 120, 274}, {0, 1, 5, -120, 274}, {359, 1, 5, 120, 85}, {359, -1, 5, -120, 85}, {359, 1, 99, 1, 359}, {359, 1, 99, 2, 0},
            {0, 1, 99, -1, 0}, {0, 1, 99, -2, 359}, {0, -1, 99, 1, 0}, {0, -1, 99, 2, 359},
        };
        for (int[] w : wants) {
            SameStar x = new SameStar();
            x.comet(36000, 40000, (w[1] < 0 ? 100000 : 0) + 100 * w[0] + w[2], 0);
            due("node " + w[0] + ", way " + w[1] + ", reach " + w[2] + ", e " + w[3], x.stands(0, 0, 36000 + w[3], 0), w[4]);
        }
    }

    @Says("DISTANCE Q and size of e")
    static void distance() {
        SameStar x = new SameStar();
        x.comet(36000, 40000, 5, 0);
        x.comet(36000, 40000, 99, 0);
        int[][] wants = {{0, 0, 5}, {0, 1, 6}, {0, -1, 6}, {0, 120, 125}, {0, -120, 125}, {1, 0, 99}, {1, -120, 219}};
        for (int[] w : wants) due("distance of " + w[0] + ", e " + w[1], x.stands(w[0], 0, 36000 + w[1], 1), w[2]);
    }

    // ---- promises

    @Says("No great bodies, no comets, no words.")
    static void nothingAtFirst() {
        SameStar x = new SameStar();
        for (int what = 0; what <= 6; what++) due("count " + what, x.count(what), 0);
        due("ofComet 0", x.ofComet(0, 0), VOID);
        due("ofWord 0", x.ofWord(0, 0), BAD);
        due("once", x.once(-1), 0);
        due("judge", x.judge(0), 0);
        due("judge a comet", x.judge(1), VOID);
        due("best", x.best(0), 0);
        due("forget", x.forget(), 0);
        due("trace", x.trace(0), BAD);
        due("text of an empty tape", x.text(0), -100);
        due("a reign", x.word(0, 0, 0), BAD);
        due("the first great body", x.great(100, 0), 0);
        due("the first comet", x.comet(0, 200, 5, 0), 0);
        due("the first word", x.word(99, 0, 0), 0);
    }

    @Says("A GREAT BODY: its number. BAD, FULL.")
    static void greatBadThenFull() {
        SameStar x = new SameStar();
        for (int i = 0; i < 4; i++) x.great(100, 1);
        due("a bad one where none has room", x.great(99, 1), BAD);
        due("a bad pull where none has room", x.great(100, 61), BAD);
        due("a good one where none has room", x.great(100, 1), FULL);
    }

    @Says("A COMET: its number. path: 100000 if its WAY is -1 (else 0), 100 times the NODE, and REACH. BAD, FULL.")
    static void cometBadThenFull() {
        SameStar x = new SameStar();
        for (int path : new int[] {LEAST, -100005, -5, -1, 200005, 235999, MOST}) due("comet " + path, x.comet(0, 200, path, 0), BAD);
        due("way 1", x.comet(0, 200, 35999, 0), 0);
        due("way of 35999", x.ofComet(0, 4), 1);
        due("way -1", x.comet(0, 200, 100005, 0), 1);
        due("way of 100005", x.ofComet(1, 4), -1);
        for (int i = 2; i < 12; i++) x.comet(0, 200, 5, 0);
        due("a good one where none has room", x.comet(0, 200, 5, 0), FULL);
        due("a bad pass where none has room", x.comet(-1, 200, 5, 0), BAD);
        due("a bad span where none has room", x.comet(0, 199, 5, 0), BAD);
        due("a bad path where none has room", x.comet(0, 200, 4, 0), BAD);
        due("a bad bright where none has room", x.comet(0, 200, 5, 10), BAD);
    }

    @Says("6 of which it broke (-1), 7 the RETURN on which it broke itself (VOID: it did not). VOID: BAD.")
    static void partsOfAComet() {
        SameStar x = new SameStar();
        x.comet(5000, 300, 105, 3);
        due("of which it broke", x.ofComet(0, 6), -1);
        due("on which it broke", x.ofComet(0, 7), VOID);
        x.broke(0, -3);
        due("it broke on -3", x.ofComet(0, 7), -3);
        due("the first part's", x.ofComet(1, 6), 0);
        due("the other part's", x.ofComet(2, 6), 0);
        due("the parts did not break", x.ofComet(2, 7), VOID);
        for (int what : new int[] {LEAST, -1, 8, MOST}) due("what " + what, x.ofComet(0, what), VOID);
        for (int comet : new int[] {LEAST, -1, 3, MOST}) due("comet " + comet, x.ofComet(comet, 0), VOID);
    }

    @Says("PASS of RETURN k (-60 .. 60); what 1: WIDE of it. BAD; NOT: no such RETURN.")
    static void passBadThenNot() {
        SameStar x = new SameStar();
        x.comet(999900, 40000, 5, 0);
        for (int k : new int[] {LEAST, -61, 61, MOST}) due("k " + k, x.pass(0, k, 0), BAD);
        for (int what : new int[] {LEAST, -1, 2, MOST}) due("what " + what, x.pass(0, 0, what), BAD);
        for (int comet : new int[] {LEAST, -1, 1, MOST}) due("comet " + comet, x.pass(comet, 0, 0), BAD);
        due("no return 1", x.pass(0, 1, 0), NOT);
        due("wide of no return 1", x.pass(0, 1, 1), NOT);
        due("no return -60", x.pass(0, -60, 0), NOT);
        due("no return 1, a bad what", x.pass(0, 1, 2), BAD);
    }

    @Says("STANDS on a DAY by RETURN k: DEGREE (what 0), DISTANCE (1), APART of the SUN (2), TAIL (3; as of PEOPLE 0). BAD; NOT: no such RETURN, or it is FAR.")
    static void standsBadThenNot() {
        SameStar x = Dues.opposite(36000, 40000);
        for (int k : new int[] {LEAST, -61, 61, MOST}) due("k " + k, x.stands(0, k, 36000, 0), BAD);
        for (int what : new int[] {LEAST, -1, 4, MOST}) due("what " + what, x.stands(0, 0, 36000, what), BAD);
        for (int comet : new int[] {LEAST, -1, 1, MOST}) due("comet " + comet, x.stands(comet, 0, 36000, 0), BAD);
        due("no such return", x.stands(0, -1, 36000, 0), NOT);
        due("far", x.stands(0, 0, 36121, 3), NOT);
        due("far by one return, not by the other", x.stands(0, 1, 36000, 0), NOT);
        due("no such return, a bad what", x.stands(0, -1, 36000, 4), BAD);
        due("no such return, a bad day", x.stands(0, -1, 1000000, 0), BAD);
        due("far, a bad what", x.stands(0, 0, 36121, 4), BAD);
        Dues.tell(x, 1, "p+p*9");
        due("the tail as of people 0", x.stands(0, 0, 36000, 3), 0);
    }

    // Between two passes it stands by both of them: the one of the lesser number is the first.
    @Says("CAN BE SEEN by a PEOPLE on a DAY by some RETURN (the first k, from -60 on). VOID: BAD, or none.")
    static void seenFirst() {
        SameStar x = new SameStar();
        x.comet(3600, 200, 9010, 5);
        due("seen by -1 and by 0", x.seen(0, 0, 3500), -1);
        Dues.tell(x, 0, "e<0-90");
        due("seen by 0 alone", x.seen(0, 0, 3500), 0);
        Dues.tell(x, 0, "0");
        due("seen by none", x.seen(0, 0, 3500), VOID);
        Dues.tell(x, 0, "1");
        for (int people : new int[] {LEAST, -1, 9, MOST}) due("people " + people, x.seen(0, people, 3500), VOID);
        for (int comet : new int[] {LEAST, -1, 1, MOST}) due("comet " + comet, x.seen(comet, 0, 3500), VOID);
        due("people 8", x.seen(0, 8, 3500), -1);
    }

    @Says("FORETOLD RETURN k (0 .. 60) by GREAT BODIES of a set")
    static void foretoldNumbers() {
        SameStar x = new SameStar();
        x.comet(500000, 300, 5, 0);
        x.great(20000, 10);
        x.great(20000, 1);
        due("foretold 0", x.foretold(0, 0, 3, 0), 500000);
        due("foretold 60 by none", x.foretold(0, 60, 0, 0), 518000);
        due("foretold 1 by the first", x.foretold(0, 1, 1, 0), 500310);
        due("foretold 1 by the second", x.foretold(0, 1, 2, 0), 500301);
        due("foretold 1 by both", x.foretold(0, 1, 3, 0), 500311);
        due("late by none", x.foretold(0, 1, 0, 1), 11);
        due("late 0", x.foretold(0, 0, 0, 1), 0);
        for (int k : new int[] {LEAST, -1, 61, MOST}) due("k " + k, x.foretold(0, k, 0, 0), VOID);
        for (int set : new int[] {LEAST, -1, 4, 7, MOST}) due("set " + set, x.foretold(0, 1, set, 0), VOID);
        for (int what : new int[] {LEAST, -1, 2, MOST}) due("what " + what, x.foretold(0, 1, 0, what), VOID);
        for (int comet : new int[] {LEAST, -1, 1, MOST}) due("comet " + comet, x.foretold(comet, 1, 0, 0), VOID);
    }

    @Says("FORETOLD: RETURN k of a COMET as reckoned with GREAT BODIES of a set (bits) alone; LATE: the PASS with all of them less that.")
    static void foretoldBySets() {
        SameStar x = new SameStar();
        x.comet(5000, 300, 5, 0);
        due("by none of none", x.foretold(0, 1, 0, 0), 5300);
        due("by one of none", x.foretold(0, 1, 1, 0), VOID);
        for (int i = 0; i < 4; i++) x.great(20000, 1 << i);
        for (int set = 0; set < 16; set++) {
            due("by set " + set, x.foretold(0, 1, set, 0), 5300 + set);
            due("late by set " + set, x.foretold(0, 1, set, 1), 15 - set);
        }
        due("by set 16", x.foretold(0, 1, 16, 0), VOID);
        x.comet(15000, 300, 5, 0);
        due("late below 0", x.foretold(1, 1, 0, 1), -15);
    }

    @Says("VOID: BAD, or no such RETURN of either (what 0: of the foretold one).")
    static void foretoldOfNone() {
        // By the great body 60 days on, to 999980; without it on 999920.
        SameStar x = new SameStar();
        x.great(20000, 60);
        x.comet(989920, 10000, 5, 0);
        due("foretold without the pull", x.foretold(0, 1, 0, 0), 999920);
        due("late", x.foretold(0, 1, 0, 1), 60);
        x.comet(989980, 10000, 5, 0);
        due("the foretold one is", x.foretold(1, 1, 0, 0), 999980);
        due("the pass with all is none", x.pass(1, 1, 0), NOT);
        due("late of no pass", x.foretold(1, 1, 0, 1), VOID);
        x.comet(990020, 10000, 5, 0);
        due("the foretold one is none", x.foretold(2, 1, 0, 0), VOID);
        due("the pass with all is", x.foretold(2, 1, 1, 0), 999960);
        due("late of none foretold", x.foretold(2, 1, 0, 1), VOID);
    }

    @Says("NODES one more and one less")
    static void brokenNodes() {
        int[][] wants = {{0, 1, 359}, {1, 2, 0}, {358, 359, 357}, {359, 0, 358}};
        for (int[] w : wants) {
            SameStar x = new SameStar();
            x.comet(5000, 300, 100 * w[0] + 5, 0);
            x.broke(0, 0);
            due("the first part's of " + w[0], x.ofComet(1, 2), w[1]);
            due("the other part's of " + w[0], x.ofComet(2, 2), w[2]);
        }
    }

    @Says("SPANS 30 more and 30 less (whatever they come to; the first of both has one and 30 more)")
    static void brokenSpans() {
        int[][] wants = {{200, 230, 170}, {40000, 40030, 39970}};
        for (int[] w : wants) {
            SameStar x = new SameStar();
            x.comet(5000, w[0], 1005, 0);
            x.broke(0, 0);
            due("the first part's of " + w[0], x.ofComet(1, 1), w[1]);
            due("the other part's of " + w[0], x.ofComet(2, 1), w[2]);
            due("the first part's node", x.ofComet(1, 2), 11);
            due("the first part's next pass", x.pass(1, 1, 0), 5000 + w[1]);
            due("the other part's next pass", x.pass(2, 1, 0), 5000 + w[2]);
        }
        SameStar x = new SameStar();
        x.comet(5000, 200, 5, 0);
        for (int i = 0; i < 5; i++) x.broke(2 * i, 0);
        due("the last part's span", x.ofComet(10, 1), 50);
        due("the last part's pass 60", x.pass(10, 60, 0), 8000);
    }

    @Says("BRIGHT - 1 (0 at least)")
    static void brokenBrights() {
        int[][] wants = {{0, 0}, {1, 0}, {2, 1}, {9, 8}};
        for (int[] w : wants) {
            SameStar x = new SameStar();
            x.comet(5000, 300, 5, w[0]);
            x.broke(0, 0);
            due("the first part's of " + w[0], x.ofComet(1, 5), w[1]);
            due("the other part's of " + w[0], x.ofComet(2, 5), w[1]);
        }
    }

    @Says("A COMET BROKE on RETURN k: the first of two new ones. BAD; NOT: no such RETURN; STATE: it broke; FULL.")
    static void brokeInOrder() {
        SameStar x = new SameStar();
        x.comet(5000, 300, 5, 0);
        x.comet(5000, 300, 5, 0);
        for (int k : new int[] {LEAST, -61, 61, MOST}) due("k " + k, x.broke(0, k), BAD);
        for (int comet : new int[] {LEAST, -1, 2, MOST}) due("comet " + comet, x.broke(comet, 0), BAD);
        due("no such return", x.broke(0, -17), NOT);
        due("what was refused broke nothing", x.ofComet(0, 7), VOID);
        due("broke", x.broke(0, -16), 2);
        due("it broke", x.broke(0, 0), STATE);
        due("it broke, no such return", x.broke(0, -17), NOT);
        due("it broke, k 61", x.broke(0, 61), BAD);
        for (int i = 4; i < 10; i++) x.comet(5000, 300, 5, 0);
        due("room for two", x.broke(1, 60), 10);
        due("no room", x.broke(9, 0), FULL);
        due("no room, it broke", x.broke(0, 0), STATE);
        due("no room, no such return", x.broke(9, -17), NOT);
        due("no room, k -61", x.broke(9, -61), BAD);
        due("what had no room broke nothing", x.ofComet(9, 7), VOID);
    }

    @Says("two new COMETS")
    static void brokeWithRoomForOne() {
        SameStar x = new SameStar();
        for (int i = 0; i < 11; i++) x.comet(5000, 300, 5, 0);
        due("room for one", x.broke(0, 0), FULL);
        due("how many", x.count(1), 11);
        due("it did not break", x.ofComet(0, 7), VOID);
        SameStar y = new SameStar();
        for (int i = 0; i < 10; i++) y.comet(5000, 300, 5, 0);
        due("room for two", y.broke(0, 0), 10);
        due("how many", y.count(1), 12);
    }

    @Says("KIN: all that came of the first one of which it came, as bits (it, too).")
    static void kin() {
        SameStar x = new SameStar();
        x.comet(5000, 300, 5, 0);
        x.comet(5000, 300, 5, 0);
        due("kin of one that did not break", x.kin(0), 1);
        x.broke(1, 0);
        x.broke(3, 0);
        x.broke(5, 0);
        for (int comet = 1; comet <= 7; comet++) due("kin of " + comet, x.kin(comet), 254);
        due("kin of another one", x.kin(0), 1);
        x.broke(0, 0);
        for (int comet : new int[] {0, 8, 9}) due("kin of " + comet, x.kin(comet), 769);
        due("kin of 7 still", x.kin(7), 254);
    }

    @Says("KIN of a COMET, as bits. BAD.")
    static void kinOfNone() {
        SameStar x = new SameStar();
        due("comet 0 of none", x.kin(0), BAD);
        for (int i = 0; i < 12; i++) {
            x.comet(5000, 300, 5, 0);
            due("kin of " + i, x.kin(i), 1 << i);
            due("kin of " + (i + 1), x.kin(i + 1), BAD);
        }
        for (int comet : new int[] {LEAST, -1, 12, MOST}) due("comet " + comet, x.kin(comet), BAD);
    }
}
