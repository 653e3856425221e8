/** Promises 23 to 29, 31, 34: the likeliest comets, paths, chances, years put right, what to look for. */
public final class StoryTest {
    private static final int BAD = SameStar.BAD, NOT = SameStar.NOT, FULL = SameStar.FULL, STATE = SameStar.STATE, VOID = SameStar.VOID;
    private static final int WORD = 0, COPIED = 3, MOVED = 4, NEW_STAR = 5, TWICE = 7, WEST = 1;
    private static final Dues DUES = new Dues("StoryTest");

    public static void main(String[] args) {
        judgeRoots();
        judgeWatches();
        judgeAgain();
        judgeAfterAGreatBody();
        best();
        bestOfLikeOnes();
        bestOfSix();
        observed();
        paths();
        pathsOfFewerPasses();
        pathsOfNoPass();
        pathsOfMore();
        alike();
        chance();
        right();
        rightAtTheEnds();
        next();
        nextOfPeoples();
        DUES.end();
    }

    private static void due(String call, long got, long want) {
        DUES.due(call, got, want);
    }

    private static void judgeRoots() {
        SameStar x = Dues.turning();
        due("judge none", x.judge(0), 0);
        due("judge a comet without words", x.judge(1), -5);
        Dues.add(x, WORD, 0, 36000, 0, 0);
        due("judge with a word", x.judge(1), -2);
        Dues.add(x, WORD, 1, 36000, 0, 0);
        due("judge with two words", x.judge(1), 1);
        x.word(20399, 0, 0);
        due("judge with a copy", x.judge(1), 1);
        Dues.add(x, WORD, 0, 36019, 0, 0);
        due("judge with a word that does not fit", x.judge(1), 1);
        Dues.add(x, WORD, 0, 76000, 0, 0);
        due("judge with a word of another return", x.judge(1), 4);
        x.comet(36000, 40000, 109010, 5);
        due("judge the like comet", x.judge(2), 4);
        due("judge both: each root once", x.judge(3), -1);
        due("judge no such comet", x.judge(4), VOID);
        due("judge -1", x.judge(-1), VOID);
        for (int i = 0; i < 145; i++) Dues.add(x, WORD, 8, 36000, 5, 0);
        due("judge with 150 words", x.judge(1), 3 * 148 - 5);
        SameStar y = Dues.turning();
        for (int i = 0; i < 150; i++) Dues.add(y, WORD, 8, i < 64 ? 76000 : 36000, 5, 0);
        due("judge with 150 words of two returns", y.judge(1), 3 * 150 - 5);
    }

    private static void judgeWatches() {
        int[][] wants = {
            // from, to, the worth without words
            {36000, 36004, -6}, {36000, 36003, -5}, {36014, 36034, -6}, {36015, 36034, -5}, {36015, 36035, -6}, {36019, 36034, -5},
            {36116, 36500, -6}, {36117, 36500, -5}, {35000, 35884, -6}, {35000, 35883, -5}, {36000, 76000, -7}, {36121, 75879, -5},
        };
        for (int[] w : wants) {
            SameStar x = Dues.turning();
            x.watch(3, w[0], w[1]);
            due("judge with a watch " + w[0] + " to " + w[1], x.judge(1), w[2]);
        }
        SameStar x = Dues.turning();
        x.watch(3, 36000, 36002);
        x.watch(3, 36003, 36005);
        due("judge with two short watches", x.judge(1), -5);
        x.watch(4, 36000, 36009);
        x.watch(5, 36000, 36009);
        due("judge with two sure watches of one return", x.judge(1), -6);
        Dues.tell(x, 0, "p<4");
        due("judge: they could not see it", x.judge(1), -5);
        Dues.tell(x, 0, "p>4");
        due("judge: one could see it", x.judge(1), -6);
        Dues.add(x, WORD, 6, 36100, 0, 0);
        due("judge: a word of another people fits", x.judge(1), -2);
        SameStar y = Dues.turning();
        Dues.tell(y, 0, "p>0");
        y.watch(3, 36000, 36009);
        int root = Dues.add(y, WORD, 0, 36000, 5, 0);
        due("judge: the root does not fit", y.judge(1), -6);
        y.word(10399, 0, root);
        due("judge: the copy fits", y.judge(1), -5);
    }

    // What is kept of a comet's worth may not outlast what it came of.
    private static void judgeAgain() {
        SameStar x = Dues.turning();
        Dues.add(x, WORD, 0, 36018, 0, 0);
        Dues.add(x, NEW_STAR, 5, 36010, 0, 0);
        due("judge", x.judge(1), 1);
        Dues.tell(x, 1, "7");
        due("judge after a tail", x.judge(1), -2);
        Dues.tell(x, 0, "p=5");
        due("judge after a text of who sees", x.judge(1), -5);
        Dues.tell(x, 0, "1");
        due("judge after one more", x.judge(1), -2);
        Dues.tell(x, 10, "36019");
        due("judge after a reckoning", x.judge(1), -5);
        Dues.tell(x, 10, "r");
        x.reign(0, 36019, -1);
        x.word(0, 0, 0);
        due("judge after a word", x.judge(1), -5);
        x.reign(0, 36018, -1);
        due("judge after a reign", x.judge(1), -2);
        x.watch(0, 76000, 76100);
        due("judge after a watch", x.judge(1), -3);
        // Behind 36000, that is not below half of 20000, the next pass is 60 sooner: 75940.
        x.great(20000, 60);
        x.watch(0, 76061, 76119);
        due("judge after a great body", x.judge(1), -3);
        x.row(0, 1, 5);
        x.put(0, 1, 1199);
        x.put(0, 2, 30);
        Dues.tell(x, 11, "36000");
        due("judge ahead of words", x.judge(1), -3);
        due("words", x.words(1, 0, 0, 1), 1);
        due("judge after words", x.judge(1), 0);
    }

    private static void judgeAfterAGreatBody() {
        SameStar x = Dues.opposite(36000, 7200);
        Dues.add(x, WORD, 0, 43200 + 120, 0, 0);
        due("judge", x.judge(1), -2);
        due("best", x.best(0), 0);
        x.great(20000, 10);
        due("the pass by a great body", x.pass(0, 1, 0), 43190);
        due("judge after a great body alone", x.judge(1), -5);
    }

    private static void best() {
        SameStar x = new SameStar();
        due("best of none", x.best(0), 0);
        due("best worth of none", x.best(1), 0);
        x.comet(36000, 40000, 109010, 5);
        Dues.add(x, WORD, 0, 36000, 0, 0);
        due("best: one word is too few", x.best(0), 0);
        Dues.add(x, WORD, 0, 36001, 0, 0);
        due("best: two words", x.best(0), 1);
        due("best worth: two words", x.best(1), 1);
        x.comet(56000, 40000, 109010, 5);
        for (int i = 0; i < 3; i++) Dues.add(x, WORD, 0, 56000 + i, 0, 0);
        due("best: both", x.best(0), 3);
        due("best worth: both", x.best(1), 5);
        x.watch(0, 36300, 999999);
        due("best what 2", x.best(2), VOID);
        due("best what -1", x.best(-1), VOID);
    }

    private static void bestOfLikeOnes() {
        SameStar x = Dues.turning();
        x.comet(36000, 40000, 109010, 5);
        Dues.add(x, WORD, 0, 36000, 0, 0);
        Dues.add(x, WORD, 0, 36001, 0, 0);
        due("best: the least as bits", x.best(0), 1);
        x.watch(0, 76000, 76010);
        due("best: none is the fewest", x.best(0), 0);
        due("best worth", x.best(1), 0);

        // Two comets fit two words each; the third fits all four, but five returns of it were missed.
        SameStar y = Dues.turning();
        y.comet(36400, 40000, 9010, 5);
        y.comet(36000, 400, 9010, 5);
        for (int day : new int[] {36000, 36005, 36400, 36405}) Dues.add(y, WORD, 0, day, 0, 0);
        y.watch(0, 37200, 38800);
        due("judge the first two", y.judge(3), 2);
        due("judge the third", y.judge(4), 2);
        due("best: the fewest, ahead of the least as bits", y.best(0), 4);
        due("best worth", y.best(1), 2);
        y.watch(0, 39200, 39300);
        due("best: the greatest worth ahead of the fewest", y.best(0), 3);
    }

    private static void bestOfSix() {
        SameStar x = new SameStar();
        for (int i = 0; i < 5; i++) x.comet(500000, 40000, 109010, 5);
        x.comet(56000, 40000, 109010, 5);
        x.comet(36000, 40000, 109010, 5);
        for (int i = 0; i < 4; i++) Dues.add(x, MOVED, 0, 36000 + i, 0, 0);
        due("judge the seventh", x.judge(64), 7);
        due("best of the first six", x.best(0), 0);
        for (int i = 0; i < 2; i++) Dues.add(x, MOVED, 0, 56000 + i, 0, 0);
        due("best of the first six: the sixth", x.best(0), 32);
        due("best worth of the first six", x.best(1), 1);
    }

    private static void observed() {
        SameStar x = new SameStar();
        due("forget none", x.forget(), 0);
        int[][] bad = {{-1, 0}, {1000000, 0}, {0, -1}, {0, 360}};
        for (int[] b : bad) due("observed " + b[0] + ", " + b[1], x.observed(b[0], b[1]), BAD);
        due("observed", x.observed(0, 0), 1);
        due("observed", x.observed(999999, 359), 2);
        for (int i = 3; i <= 5; i++) due("observed " + i, x.observed(7, 7), i);
        due("observed 6", x.observed(7, 7), FULL);
        due("observed bad ahead of full", x.observed(7, 360), BAD);
        due("count", x.count(5), 5);
        due("forget", x.forget(), 5);
        due("count after forget", x.count(5), 0);
        due("observed after forget", x.observed(7, 7), 1);
    }

    private static void path(SameStar x, int day, int slack, int... want) {
        for (int what = 0; what < 5; what++) due("paths " + day + ", " + slack + ", " + what, x.paths(day, slack, what), want[what]);
    }

    private static void paths() {
        SameStar x = new SameStar();
        due("paths of no evening", x.paths(5000, 0, 0), STATE);
        x.observed(5000, 100);
        due("paths of one evening", x.paths(5000, 0, 1), STATE);
        int[][] bad = {{-1, 0, 0}, {1000000, 0, 0}, {5000, -1, 0}, {5000, 91, 0}, {5000, 0, 5}, {5000, 0, -1}};
        for (int[] b : bad) due("paths " + b[0] + ", " + b[1] + ", " + b[2], x.paths(b[0], b[1], b[2]), BAD);
        x.observed(5000, 100);
        for (int[] b : bad) due("paths " + b[0] + ", " + b[1] + ", " + b[2], x.paths(b[0], b[1], b[2]), BAD);
        // Passes 121, reaches 10, ways 2. On 4940 the evening is 60 days behind: 5400 / 65 is 83.
        path(x, 5000, 0, 2420, 4940, 5, 1, 17);
        // Passes 5040 to 5120 alone are not far; 40 days ahead of the first: 3600 / 45 is 80.
        path(x, 5100, 0, 1620, 5040, 5, 1, 180);
        path(x, 5180, 0, 20, 5120, 5, 1, 186);
        path(x, 5181, 0, 0, NOT, NOT, NOT, NOT);
        path(x, 4820, 90, 20, 4880, 5, 1, 14);
        x.observed(5000, 105);
        path(x, 5000, 4, 0, NOT, NOT, NOT, NOT);
        path(x, 5000, 5, 2420, 4940, 5, 1, 17);
        due("the evenings stay", x.count(5), 3);
        x.forget();
        x.observed(5000, 10);
        x.observed(5000, 10);
        path(x, 5000, 0, 2420, 4940, 5, 1, 287);
        x.forget();
        x.observed(30, 359);
        x.observed(30, 1);
        path(x, 90, 2, 2420, 30, 5, 1, 359);
        path(x, 90, 1, 0, NOT, NOT, NOT, NOT);
    }

    // A pass is a day: about the first and the last days there are fewer than 121.
    private static void pathsOfFewerPasses() {
        SameStar x = new SameStar();
        x.observed(30, 359);
        x.observed(30, 1);
        path(x, 0, 2, 1220, 0, 5, 1, 282);
        path(x, 0, 1, 0, NOT, NOT, NOT, NOT);
        path(x, 1, 2, 1240, 0, 5, 1, 282);
        path(x, 59, 2, 2400, 0, 5, 1, 282);
        path(x, 60, 2, 2420, 0, 5, 1, 282);
        path(x, 61, 2, 2420, 1, 5, 1, 283);
        x.forget();
        x.observed(999999, 10);
        x.observed(999999, 10);
        path(x, 999999, 0, 1220, 999939, 5, 1, 287);
        path(x, 999998, 0, 1240, 999938, 5, 1, 287);
        path(x, 999940, 0, 2400, 999880, 5, 1, 284);
        path(x, 999939, 0, 2420, 999879, 5, 1, 284);
    }

    private static SameStar evenings(int[]... evenings) {
        SameStar x = new SameStar();
        for (int[] e : evenings) x.observed(e[0], e[1]);
        return x;
    }

    // Evenings that one path alone lets, by pass 7; with all of them ten days sooner it is no pass.
    private static void pathsOfNoPass() {
        // Reach 35, way 1, node 0: 90 / 36 is 2, 90 * 10 / 45 is 20, 90 * 30 / 65 is 41, 90 * 70 / 105 is 60.
        path(evenings(new int[][] {{17, 20}, {37, 41}, {77, 60}, {8, 2}}), 0, 0, 1, 7, 35, 1, 0);
        // 90 * 3 / 38 is 7.
        SameStar x = evenings(new int[][] {{7, 20}, {27, 41}, {67, 60}, {0, 7}});
        path(x, 0, 0, 0, NOT, NOT, NOT, NOT);
        path(x, 57, 0, 0, NOT, NOT, NOT, NOT);
        // On the other side: 90 * -3 / 38 is -7.
        path(evenings(new int[][] {{999982, 340}, {999962, 319}, {999922, 300}, {999989, 353}}), 999999, 0, 1, 999992, 35, 1, 0);
        path(evenings(new int[][] {{999992, 340}, {999972, 319}, {999932, 300}, {999999, 353}}), 999999, 0, 0, NOT, NOT, NOT, NOT);
    }

    private static void pathsOfMore() {
        SameStar x = new SameStar();
        // By pass 5000, reach 35, way -1, node 200: 90 * 10 / 45 is 20, 90 * 30 / 65 is 41, 90 * 70 / 105 is 60.
        x.observed(5010, 180);
        x.observed(4970, 241);
        x.observed(5070, 140);
        x.observed(5000, 200);
        x.observed(4990, 220);
        path(x, 5000, 0, 1, 5000, 35, -1, 200);
        path(x, 5060, 0, 1, 5000, 35, -1, 200);
        path(x, 4940, 0, 1, 5000, 35, -1, 200);
        path(x, 5061, 0, 0, NOT, NOT, NOT, NOT);
        due("paths within more", x.paths(5000, 90, 0) > x.paths(5000, 10, 0) ? 1 : 0, 1);
    }

    private static void alike() {
        SameStar x = new SameStar();
        x.comet(10, 300, 35950, 0);
        x.comet(20, 300, 456, 0);
        x.comet(20, 300, 100456, 0);
        x.comet(20, 300, 18050, 0);
        due("alike: reaches 6 apart", x.alike(0, 1, 6), 1);
        due("alike: reaches not within 5", x.alike(0, 1, 5), 0);
        due("alike the other way around", x.alike(1, 0, 6), 1);
        due("alike: ways unlike", x.alike(1, 2, 180), 0);
        due("alike: nodes 179 apart", x.alike(0, 3, 179), 1);
        due("alike: nodes not within 178", x.alike(0, 3, 178), 0);
        due("alike: itself", x.alike(2, 2, 0), 1);
        due("alike x -1", x.alike(0, 1, -1), BAD);
        due("alike x 181", x.alike(0, 1, 181), BAD);
        due("alike comet 4", x.alike(4, 1, 0), BAD);
        due("alike other 4", x.alike(0, 4, 0), BAD);
        due("alike other -1", x.alike(0, -1, 0), BAD);
    }

    private static int near(int x, int seed, int n) {
        long z = seed & 0xffffffffL;
        int near = 0;
        for (int i = 0; i < n; i++) {
            int[] drawn = new int[4];
            for (int j = 0; j < 4; j++) {
                z = (z * 1103515245L + 12345L) & 0xffffffffL;
                drawn[j] = (int) (j % 2 == 0 ? (z >> 8) % 360 : 5 + (z >> 8) % 95);
            }
            int nodes = Math.abs(drawn[0] - drawn[2]);
            if (Math.min(nodes, 360 - nodes) <= x && Math.abs(drawn[1] - drawn[3]) <= x) near++;
        }
        return near * 1000 / n;
    }

    private static void chance() {
        SameStar x = new SameStar();
        for (int seed : new int[] {0, 1, 7, -1, 123456789, Integer.MIN_VALUE, Integer.MAX_VALUE}) {
            for (int within : new int[] {0, 10, 33, 60, 90, 94, 120, 179, 180}) {
                for (int n : new int[] {1, 3, 7, 199, 200}) {
                    due("chance " + within + ", " + seed + ", " + n, x.chance(within, seed, n), near(within, seed, n));
                }
            }
        }
        due("chance within 180", x.chance(180, 5, 200), 1000);
        due("chance x -1", x.chance(-1, 5, 200), BAD);
        due("chance x 181", x.chance(181, 5, 200), BAD);
        due("chance n 0", x.chance(1, 5, 0), BAD);
        due("chance n 201", x.chance(1, 5, 201), BAD);
        due("chance n -1", x.chance(1, 5, -1), BAD);
    }

    private static void put(String call, SameStar x, int people, int move, int many) {
        due("right 0: " + call, x.right(people, 0, 0), move);
        due("right 1: " + call, x.right(people, 0, 1), many);
    }

    private static void right() {
        SameStar x = Dues.turning();
        put("no words", x, 2, 0, 0);
        Dues.add(x, WORD, 2, 36150, 0, 0);
        put("one word", x, 2, -30, 1);
        Dues.add(x, WORD, 2, 36160, 0, 0);
        put("two words", x, 2, -40, 2);
        x.word(20399, 0, 0);
        put("a copy does not count", x, 2, -40, 2);
        x.word(30399, 0, 0);
        put("a people of copies alone", x, 3, 0, 0);
        Dues.add(x, WORD, 4, 36000, 0, 0);
        put("words of others do not count", x, 2, -40, 2);
        put("words that are right", x, 4, 0, 1);
        Dues.add(x, WORD, 5, 36027, 0, 0);
        put("of like ones the one below 0", x, 5, -10, 1);
        Dues.add(x, WORD, 6, 36520, 0, 0);
        put("the least move", x, 6, -400, 1);
        Dues.add(x, WORD, 6, 36521, 0, 0);
        put("beyond the least move", x, 6, -400, 1);
        SameStar z = Dues.turning();
        Dues.add(z, WORD, 6, 36510, 0, 0);
        put("the least move but one", z, 6, -390, 1);
        Dues.add(x, WORD, 7, 35480, 0, 0);
        put("the greatest move", x, 7, 400, 1);
        Dues.add(x, TWICE, 8, 36050, 10, WEST);
        put("twice", x, 8, -70, 1);
        Dues.add(x, WORD, 1, 76130, 0, 0);
        put("a later return", x, 1, -10, 1);
        Dues.tell(x, 0, "p=1&e=50");
        put("a text of who sees", x, 1, -80, 1);
        put("a text of who sees not", x, 2, 0, 0);
        due("right people 9", x.right(9, 0, 0), VOID);
        due("right people -1", x.right(-1, 0, 0), VOID);
        due("right comet 1", x.right(0, 1, 0), VOID);
        due("right what 2", x.right(0, 0, 2), VOID);
        due("right what -1", x.right(0, 0, -1), VOID);
    }

    // Spans are moved first, and cut to the days that there are only then.
    private static void rightAtTheEnds() {
        SameStar x = new SameStar();
        x.comet(20, 40000, 18010, 5);
        Dues.tell(x, 12, "0-100");
        x.word(20099, 0, 0);
        put("a word ahead of day 0", x, 2, 100, 1);
        due("its span stays without days", x.span(0, 0, 0), VOID);
        Dues.tell(x, 12, "0-100-1");
        x.word(20099, 0, 0);
        put("a word ahead of day 0", x, 2, 110, 2);
        Dues.tell(x, 12, "0-400-5");
        x.word(20099, 4, 0);
        put("words too far ahead", x, 2, 0, 0);
        SameStar y = new SameStar();
        y.comet(999990, 40000, 18010, 5);
        Dues.tell(y, 12, "1000*1000+5");
        y.word(20099, 3, 0);
        put("a word behind the last day", y, 2, -10, 1);
        Dues.tell(y, 12, "r");
        y.reign(0, 5, 999700);
        y.word(20000, 0, 0);
        Dues.tell(y, 12, "r=0?1000*1000+200;r");
        put("the second of two spans", y, 2, 170, 1);
    }

    private static void next() {
        SameStar x = Dues.turning();
        x.comet(36000, 40000, 109010, 0);
        due("next without a watch", x.next(0, 1, 0), NOT);
        x.watch(4, 35000, 37000);
        due("next of two alike", x.next(0, 1, 0), NOT);
        Dues.tell(x, 0, "b>0|e>50");
        due("next", x.next(0, 1, 0), 35880);
        due("next people", x.next(0, 1, 1), 4);
        due("next the other way around", x.next(1, 0, 0), NOT);
        due("next one and the same", x.next(1, 1, 0), BAD);
        due("next what 2", x.next(0, 1, 2), BAD);
        due("next what -1", x.next(0, 1, -1), BAD);
        due("next comet 2", x.next(2, 1, 0), BAD);
        due("next other 2", x.next(1, 2, 0), BAD);
        due("next comet -1", x.next(-1, 1, 0), BAD);
        Dues.tell(x, 0, "b>0&e>30");
        due("next on a later day", x.next(0, 1, 0), 36035);
        Dues.tell(x, 0, "b>0&e=120&q-130=0|b=0");
        due("next on no day: the other one stands there", x.next(0, 1, 0), NOT);
    }

    private static void nextOfPeoples() {
        SameStar x = Dues.turning();
        x.comet(800000, 40000, 109010, 0);
        x.watch(7, 35890, 37000);
        due("next of one watch", x.next(0, 1, 1), 7);
        x.watch(5, 35890, 36000);
        due("next: the least people", x.next(0, 1, 1), 5);
        x.watch(8, 35889, 35889);
        due("next: the least day ahead of the least people", x.next(0, 1, 0), 35889);
        due("next: the least day ahead of the least people", x.next(0, 1, 1), 8);
        Dues.tell(x, 0, "p=7");
        due("next: who could see it", x.next(0, 1, 0), 35890);
        due("next: who could see it", x.next(0, 1, 1), 7);
        // The second comet comes back to 40000 on return -19, far from 36000; the first one's return 1 is 76000.
        x.watch(7, 75800, 75990);
        due("next: the first of two returns", x.next(0, 1, 0), 35890);
        SameStar y = Dues.turning();
        y.comet(800000, 40000, 109010, 0);
        y.watch(7, 75800, 75990);
        due("next: of a later return", y.next(0, 1, 0), 75880);
        y.comet(76180, 40000, 109010, 0);
        due("next: the other one is seen by a return of its own", y.next(0, 2, 0), 75880);
        nextAtTheEnds();
        nextAgain();
        SameStar z = Dues.turning();
        z.comet(36180, 400, 109010, 5);
        z.watch(7, 36060, 36070);
        due("next: the other one is seen, too", z.next(0, 1, 0), NOT);
    }

    // What one call gathers of the other comet's returns is nothing to the next call.
    private static void nextAgain() {
        SameStar x = Dues.opposite(360000, 720);
        Dues.addOpposite(x, 360000, 200);
        Dues.addOpposite(x, 345600, 7200);
        x.watch(0, 360000, 360000);
        for (int i = 0; i < 3; i++) due("next: seen by the second one's pass", x.next(0, 1, 0), NOT);
        due("next: seen by the third one's return 2", x.next(0, 2, 0), NOT);
    }

    private static void nextAtTheEnds() {
        SameStar x = Dues.turning();
        x.comet(36240, 40000, 109010, 5);
        x.watch(7, 36120, 36120);
        due("next: 120 behind the one, 120 ahead of the other", x.next(0, 1, 0), NOT);
        x.comet(100000, 300, 109010, 5);
        x.comet(500000, 200, 109010, 5);
        x.watch(6, 117950, 118050);
        due("next: the last return", x.next(2, 3, 0), 117950);
        x.comet(117990, 40000, 109010, 5);
        due("next: the other one on the last return", x.next(4, 2, 0), NOT);
        x.watch(6, 81950, 82050);
        due("next: the first return", x.next(2, 3, 0), 81950);
        x.comet(81990, 40000, 109010, 5);
        due("next: the other one on the first return", x.next(5, 2, 0), NOT);
    }
}
