/** Terms 4 and promises 23 to 29, 31, 34: each sentence that names a boundary case. */
public final class StoryEdgesTest {
    private static final int BAD = SameStar.BAD, NOT = SameStar.NOT, FULL = SameStar.FULL, STATE = SameStar.STATE, VOID = SameStar.VOID;
    private static final int LEAST = Integer.MIN_VALUE, MOST = Integer.MAX_VALUE;
    private static final int WORD = 0, COPIED = 3, TWICE = 7, WEST = 1;

    public static void main(String[] args) throws Exception {
        Edges.runAll(StoryEdgesTest.class);
    }

    private static void due(String call, long got, long want) {
        Edges.due(call, got, want);
    }

    private static void addWords(SameStar x, int... days) {
        for (int day : days) Dues.add(x, WORD, 0, day, 0, 0);
    }

    // ---- terms 4: the worth of sets

    @Says("3 for each ROOT (of WORDS that are not COPIED) that FITS some RETURN of a COMET of the set")
    static void threeForARoot() {
        SameStar x = Dues.opposite(360000, 720);
        due("no word", x.judge(1), -5);
        addWords(x, 316800 - 120);
        due("one of return -60", x.judge(1), -2);
        addWords(x, 403200 + 120);
        due("one of return 60", x.judge(1), 1);
        addWords(x, 316800 - 121, 360360, 403200 + 121);
        due("some of none", x.judge(1), 1);
        x.word(100 * COPIED + 99, 0, 0);
        due("a copy", x.judge(1), 1);
        Dues.add(x, WORD, 0, 360000, 400, 0);
        due("one of two returns", x.judge(1), 4);
        Dues.addOpposite(x, 360000, 720);
        due("each of two comets", x.judge(3), -1);
        for (int i = x.count(2); i < 150; i++) Dues.add(x, WORD, 8, 360000, 0, 0);
        due("150 words", x.judge(1), 4 + 3 * 143);
        SameStar y = new SameStar();
        for (int i = 0; i < 3; i++) Dues.addOpposite(y, 360000 + 720 * i, 40000);
        for (int i = 0; i < 150; i++) Dues.add(y, WORD, 8, 360000 + 720 * (i % 3), 0, 0);
        int[] wants = {0, 145, 145, 290, 145, 290, 290, 435};
        for (int set = 0; set < 8; set++) due("150 words, 50 of each of three: set " + set, y.judge(set), wants[set]);
    }

    @Says("5 less for each COMET")
    static void fiveLessForAComet() {
        SameStar x = new SameStar();
        for (int i = 0; i < 12; i++) x.comet(5000, 40000, 5, 0);
        due("none", x.judge(0), 0);
        for (int i = 0; i < 12; i++) due("comet " + i, x.judge(1 << i), -5);
        due("all twelve", x.judge(4095), -60);
    }

    private static void watched(String of, int from, int to, int worth) {
        SameStar x = Dues.opposite(360000, 720);
        x.watch(0, from, to);
        due("watched from " + from + " to " + to + ": " + of, x.judge(1), worth);
    }

    @Says("1 less for each RETURN of these (-60 .. 60) with a SURE WATCH")
    static void oneLessForAReturn() {
        watched("return 0", 359880, 360120, -6);
        watched("return -60", 316680, 316920, -6);
        watched("where -61 would be", 0, 316679, -5);
        watched("return 60", 403080, 403320, -6);
        watched("where 61 would be", 403321, 999999, -5);
        watched("all", 0, 999999, -126);
        watched("0 and 1", 360000, 360720, -7);
    }

    @Says("(told: a PEOPLE watched from a DAY to a DAY; at most 10)")
    static void tenWatches() {
        SameStar x = Dues.opposite(360000, 720);
        for (int i = 0; i < 10; i++) x.watch(0, 360000 + 720 * i, 360010 + 720 * i);
        due("ten watches", x.judge(1), -15);
        due("one more", x.watch(0, 0, 999999), FULL);
        due("ten watches still", x.judge(1), -15);
    }

    @Says("(in some one WATCH it CAN BE SEEN by that PEOPLE on 5 DAYS of it or more)")
    static void fiveDays() {
        watched("five days", 360000, 360004, -6);
        watched("four days", 360000, 360003, -5);
        watched("the last five days", 360116, 360300, -6);
        watched("the last four days", 360117, 360300, -5);
        watched("the first five days", 359700, 359884, -6);
        watched("the first four days", 359700, 359883, -5);
        SameStar x = Dues.opposite(360000, 720);
        x.watch(0, 360000, 360003);
        x.watch(0, 360004, 360007);
        x.watch(1, 360000, 360003);
        due("four days in each of three watches", x.judge(1), -5);
        Dues.tell(x, 0, "e%2=0&p=7");
        x.watch(7, 360000, 360007);
        due("four days of eight", x.judge(1), -5);
        x.watch(6, 360000, 360020);
        due("one that could not see it", x.judge(1), -5);
        x.watch(7, 360000, 360008);
        due("five days of nine", x.judge(1), -6);
        x.watch(7, 360000, 360008);
        due("two sure watches of one return", x.judge(1), -6);
    }

    @Says("and which no WORD FITS (COPIED ones too)")
    static void noWordFits() {
        SameStar x = Dues.opposite(360000, 720);
        x.watch(3, 360000, 360010);
        due("no word", x.judge(1), -6);
        Dues.tell(x, 0, "p>1");
        int root = Dues.add(x, WORD, 0, 360000, 5, 0);
        due("a word that does not fit", x.judge(1), -6);
        x.word(10000 + 100 * COPIED + 99, 0, root);
        due("a copy that does not fit", x.judge(1), -6);
        x.word(20000 + 100 * COPIED + 99, 0, root);
        due("a copy that fits", x.judge(1), -5);
        Dues.add(x, WORD, 4, 360720, 5, 0);
        due("a word that fits another return", x.judge(1), -2);
        x.watch(3, 360715, 360725);
        due("a word that fits that return", x.judge(1), -2);
    }

    @Says("BEST: the set with the greatest WORTH")
    static void greatestWorth() {
        SameStar x = new SameStar();
        for (int i = 0; i < 3; i++) Dues.addOpposite(x, 36000 + 1080 * i, 40000);
        due("best of no words", x.best(0), 0);
        addWords(x, 36000);
        due("one word", x.best(0), 0);
        addWords(x, 36001);
        due("two words", x.best(0), 1);
        addWords(x, 38160, 38161);
        due("two words of another one, too", x.best(0), 5);
        due("its worth", x.best(1), 2);
    }

    @Says("of like ones the fewest, then the least as bits")
    static void likeOnes() {
        // The first two fit two words each; the third fits all four, and five returns of it were missed.
        SameStar x = Dues.opposite(36000, 40000);
        Dues.addOpposite(x, 37080, 40000);
        Dues.addOpposite(x, 36000, 1080);
        addWords(x, 36000, 36001, 37080, 37081);
        x.watch(0, 38040, 42600);
        due("the first two", x.judge(3), 2);
        due("the third", x.judge(4), 2);
        due("the fewest", x.best(0), 4);
        SameStar y = new SameStar();
        for (int i = 0; i < 6; i++) Dues.addOpposite(y, 36000, 40000);
        addWords(y, 36000, 36001);
        due("the least as bits", y.best(0), 1);
        due("its worth", y.best(1), 1);
        y.watch(0, 76000, 76010);
        due("worth nothing, like none", y.judge(32), 0);
        due("none", y.best(0), 0);
        due("the worth of none", y.best(1), 0);
        y.watch(0, 116000, 116010);
        due("worth less than none", y.judge(1), -1);
        due("none", y.best(1), 0);
    }

    // ---- terms 4: evenings

    private static SameStar evenings(int... daysAndDegrees) {
        SameStar x = new SameStar();
        for (int i = 0; i < daysAndDegrees.length; i += 2) x.observed(daysAndDegrees[i], daysAndDegrees[i + 1]);
        return x;
    }

    private static void paths(SameStar x, int day, int slack, int... wants) {
        for (int what = 0; what <= 4; what++) due("paths " + day + ", " + slack + ", " + what, x.paths(day, slack, what), wants[what]);
    }

    private static void noPaths(SameStar x, int day, int slack) {
        paths(x, day, slack, 0, NOT, NOT, NOT, NOT);
    }

    @Says("THREE EVENINGS: told days and DEGREES (at most 5)")
    static void fiveEvenings() {
        SameStar x = new SameStar();
        for (int i = 1; i <= 5; i++) due("observed", x.observed(5000, 100), i);
        due("observed, the sixth", x.observed(5000, 200), FULL);
        due("how many", x.count(5), 5);
        due("paths of five", x.paths(5000, 0, 0), 2420);
    }

    @Says("of PASS (a told day less 60 to 60 more)")
    static void passesOfPaths() {
        // One path alone lets these: its pass is 5000.
        SameStar x = evenings(4880, 274, 5000, 0, 5120, 86);
        noPaths(x, 4939, 0);
        paths(x, 4940, 0, 1, 5000, 5, 1, 0);
        paths(x, 5060, 0, 1, 5000, 5, 1, 0);
        noPaths(x, 5061, 0);
        SameStar y = evenings(30, 100, 30, 100);
        due("paths about 0: 61 passes", y.paths(0, 0, 0), 1220);
        due("the first is day 0", y.paths(0, 0, 1), 0);
        due("paths about 60: 121 passes", y.paths(60, 0, 0), 2420);
        due("paths about 59: 120 passes", y.paths(59, 0, 0), 2400);
        due("paths about 61: the first is day 1", y.paths(61, 0, 1), 1);
        SameStar z = evenings(999999, 100, 999999, 100);
        due("paths about 999999: 61 passes", z.paths(999999, 0, 0), 1220);
        due("paths about 999939: 121 passes", z.paths(999939, 0, 0), 2420);
        due("paths about 999940: 120 passes", z.paths(999940, 0, 0), 2400);
    }

    @Says("REACH (by tens: 5, 15, .. 95)")
    static void reachesOfPaths() {
        for (int reach = 4; reach <= 106; reach++) {
            // What a path with this reach and node 180 gives, 120 days ahead, on its pass and 120 behind.
            int turn = 10800 / (120 + reach);
            int other = 90 * 7 / (7 + reach);
            int another = 90 * 25 / (25 + reach);
            SameStar x = evenings(5000, 180, 4880, 180 - turn, 5120, 180 + turn, 5007, 180 + other, 4975, 180 - another);
            if (reach % 10 == 5 && reach < 100) paths(x, 5000, 0, 1, 5000, reach, 1, 180);
            else if (reach == 4 || reach > 100) noPaths(x, 5000, 0);
        }
    }

    @Says("NODE (DEGREE less turn, + 720, % 360) so that the first evening is right")
    static void nodesOfPaths() {
        // On 5060 the evening is 60 days behind 5000: 5400 / 65 is 83.
        int[][] wants = {{0, 277}, {82, 359}, {83, 0}, {359, 276}};
        for (int[] w : wants) {
            SameStar x = evenings(5060, w[0], 5060, w[0]);
            paths(x, 5060, 0, 2420, 5000, 5, 1, w[1]);
            // Ahead of its pass it is 83 less.
            SameStar y = evenings(4940, (360 - w[0]) % 360, 4940, (360 - w[0]) % 360);
            paths(y, 5060, 0, 1220, 5000, 5, 1, (360 - w[1]) % 360);
        }
        SameStar z = evenings(5060, 100, 5060, 190);
        due("the first one is right, the other one 90 off", z.paths(5060, 90, 4), 17);
        due("the other one is not within 89", z.paths(5060, 89, 4), NOT);
    }

    @Says("none FAR")
    static void noneFar() {
        int[][] wants = {{5060, 2420}, {5061, 2400}, {5179, 40}, {5180, 20}, {5181, 0}, {4940, 2420}, {4939, 2400}, {4820, 20}, {4819, 0}};
        SameStar x = evenings(5000, 100, 5000, 100);
        for (int[] w : wants) due("paths about " + w[0], x.paths(w[0], 90, 0), w[1]);
        due("the first one far, the other one not", evenings(5000, 100, 5001, 100).paths(5181, 90, 0), 0);
        due("the other one far, the first one not", evenings(5001, 100, 5000, 100).paths(5181, 90, 0), 0);
        due("120 ahead and 120 behind", evenings(4880, 274, 5120, 86).paths(5000, 90, 0) > 0 ? 1 : 0, 1);
        due("120 ahead and 121 behind", evenings(4880, 274, 5121, 86).paths(5000, 90, 0), 0);
    }

    @Says("all others APART by a told slack at most: how many")
    static void othersApart() {
        int[][] wants = {{100, 105, 5}, {105, 100, 5}, {359, 1, 2}, {1, 359, 2}, {0, 90, 90}, {0, 270, 90}, {7, 7, 0}};
        for (int[] w : wants) {
            SameStar x = evenings(5000, w[0], 5000, w[1]);
            due("slack " + w[2], x.paths(5000, w[2], 0), 2420);
            if (w[2] > 0) noPaths(x, 5000, w[2] - 1);
        }
        noPaths(evenings(5000, 0, 5000, 91), 5000, 90);
        noPaths(evenings(5000, 0, 5000, 0, 5000, 0, 5000, 0, 5000, 91), 5000, 90);
        due("all five within 90", evenings(5000, 0, 5000, 0, 5000, 0, 5000, 0, 5000, 90).paths(5000, 90, 0), 2420);
    }

    @Says("the first by PASS, REACH, WAY (1, then -1): told as NODE")
    static void firstPath() {
        // A later pass lets a lesser reach; the same pass lets way 1 with a greater reach alone.
        paths(evenings(4995, 314, 4978, 297, 5051, 227), 5000, 24, 50, 5033, 25, -1, 260);
        paths(evenings(4945, 63, 5069, 54), 5000, 68, 371, 4949, 45, -1, 56);
        paths(evenings(4986, 288, 5011, 288), 5000, 5, 74, 4940, 5, 1, 207);
        paths(evenings(5000, 0, 5000, 0), 5060, 0, 2420, 5000, 5, 1, 0);
    }

    // ---- terms 4: alike, chance, put right, next

    @Says("ALIKE are two COMETS within x, if NODES are x or less APART, REACHES x or less, WAYS one.")
    static void alikeWithin() {
        int[][] wants = {
            // two paths, the least x within which they are alike
            {1050, 1050, 0}, {1050, 1150, 1}, {35950, 50, 1}, {50, 35950, 1}, {50, 18050, 180}, {50, 18150, 179}, {50, 55, 5}, {55, 50, 5}, {5, 99, 94},
            {50, 255, 5}, {50, 753, 7}, {100050, 100150, 1},
        };
        for (int[] w : wants) {
            SameStar x = new SameStar();
            x.comet(0, 200, w[0], 0);
            x.comet(999999, 40000, w[1], 9);
            due("alike " + w[0] + ", " + w[1], x.alike(0, 1, w[2]), 1);
            if (w[2] > 0) due("alike " + w[0] + ", " + w[1], x.alike(0, 1, w[2] - 1), 0);
        }
        SameStar x = new SameStar();
        x.comet(0, 200, 50, 0);
        x.comet(0, 200, 100050, 0);
        due("ways unlike", x.alike(0, 1, 180), 0);
    }

    @Says("CHANCE: n pairs (1 .. 200) drawn by a SEED: z becomes z * 1103515245 + 12345 (an int) for each of NODE, REACH, NODE, REACH: (z >>> 8) % 360, 5 + (z >>> 8) % 95")
    static void chanceOfSeeds() {
        SameStar x = new SameStar();
        for (int seed : new int[] {0, 1, -1, LEAST, MOST, 99, -123456789}) {
            for (int within : new int[] {0, 5, 94, 179, 180}) {
                for (int n : new int[] {1, 2, 200}) due("chance " + within + ", " + seed + ", " + n, x.chance(within, seed, n), 1000 * near(within, seed, n) / n);
            }
        }
    }

    @Says("CHANCE within x by a SEED and n pairs. BAD.")
    static void chanceBad() {
        SameStar x = new SameStar();
        for (int n : new int[] {LEAST, -1, 0, 201, MOST}) due("n " + n, x.chance(180, 5, n), BAD);
        for (int within : new int[] {LEAST, -1, 181, MOST}) due("within " + within, x.chance(within, 5, 5), BAD);
        for (int n : new int[] {1, 200}) due("n " + n, x.chance(180, LEAST, n), 1000);
        due("within 0", x.chance(0, MOST, 1), 0);
    }

    // Drawn with longs, of which the lower half alone is kept.
    private static int near(int within, int seed, int n) {
        long z = seed & 0xffffffffL;
        int near = 0;
        long[] drawn = new long[4];
        for (int i = 0; i < 4 * n; i++) {
            z = z * 1103515245L + 12345L & 0xffffffffL;
            drawn[i % 4] = z / 256;
            if (i % 4 < 3) continue;
            long nodes = Math.abs(drawn[0] % 360 - drawn[2] % 360);
            long reaches = Math.abs(drawn[1] % 95 - drawn[3] % 95);
            if (Math.min(nodes, 360 - nodes) <= within && reaches <= within) near++;
        }
        return near;
    }

    @Says("thousandths of pairs (cut) that lie so near (WAYS left aside)")
    static void cutThousandths() {
        SameStar x = new SameStar();
        boolean[] found = new boolean[4];
        for (int seed = 0; seed < 60; seed++) {
            int near = near(60, seed, 3);
            found[near] = true;
            due("chance by " + seed, x.chance(60, seed, 3), new int[] {0, 333, 666, 1000}[near]);
        }
        due("some of all", found[0] && found[1] && found[2] ? 1 : 0, 1);
    }

    private static void right(String of, SameStar x, int people, int move, int many) {
        due(of + ": the move", x.right(people, 0, 0), move);
        due(of + ": how many", x.right(people, 0, 1), many);
    }

    // The one day on which it can be seen is 36000: so a word's day tells the move.
    @Says("a PEOPLE's days moved by s (-400 .. 400 by steps of 10; SPANS are moved, then cut)")
    static void movedDays() {
        int[][] wants = {
            // day, slack, move, how many
            {36400, 0, -400, 1}, {36401, 0, 0, 0}, {36410, 0, 0, 0}, {36405, 5, -400, 1}, {36406, 5, 0, 0}, {35600, 0, 400, 1}, {35599, 0, 0, 0},
            {35590, 0, 0, 0}, {36010, 0, -10, 1}, {36005, 0, 0, 0}, {36015, 5, -10, 1}, {36016, 5, -20, 1}, {36395, 5, -390, 1},
        };
        for (int[] w : wants) {
            SameStar x = Dues.opposite(36000, 40000);
            Dues.tell(x, 0, "e=0");
            Dues.add(x, WORD, 4, w[0], w[1], 0);
            right("a word of " + w[0] + ", slack " + w[1], x, 4, w[2], w[3]);
        }
    }

    // The moves that a people's kinds of words want, each seen on the first or the last day alone.
    @Says("FIT some RETURN of a told COMET")
    static void movedKinds() {
        int[][] wants = {
            // kind, more, the day's e, move
            {0, 0, 0, 0}, {4, 0, 10, 0}, {4, 0, 20, -10}, {4, 0, -30, 20}, {1, 12, 0, 0}, {6, 11, 0, -10}, {6, 12, -20, 20}, {2, 1, 0, 10}, {2, 0, 9, -10},
        };
        for (int[] w : wants) {
            SameStar x = Dues.opposite(36000, 40000);
            Dues.add(x, w[0], 0, 36000 + w[2], 0, w[1]);
            right("kind " + w[0] + ", e " + w[2], x, 0, w[3], 1);
        }
        SameStar x = Dues.opposite(36000, 40000);
        Dues.add(x, WORD, 0, 35870, 0, 0);
        right("to 120 ahead", x, 0, 10, 1);
        Dues.add(x, WORD, 1, 36130, 0, 0);
        right("to 120 behind", x, 1, -10, 1);
        Dues.tell(x, 0, "e=-120|e=120");
        right("to 120 ahead", x, 0, 10, 1);
        right("to 120 behind", x, 1, -10, 1);
        SameStar y = Dues.opposite(360000, 720);
        Dues.add(y, WORD, 0, 316650, 0, 0);
        right("to return -60", y, 0, 30, 1);
        Dues.add(y, WORD, 1, 403350, 0, 0);
        right("to return 60", y, 1, -30, 1);
        Dues.add(y, WORD, 2, 316650 - 410, 0, 0);
        right("to no return -61", y, 2, 0, 0);
    }

    @Says("SPANS are moved, then cut")
    static void movedThenCut() {
        SameStar x = Dues.opposite(0, 40000);
        Dues.tell(x, 10, "-400");
        x.word(99, 0, 0);
        right("a word ahead of day 0", x, 0, 400, 1);
        Dues.tell(x, 10, "-401");
        right("a word too far ahead of day 0", x, 0, 0, 0);
        Dues.tell(x, 10, "-405");
        x.word(99, 5, 0);
        right("one that comes to day 0", x, 0, 400, 1);
        SameStar y = Dues.opposite(999999, 40000);
        Dues.tell(y, 10, "999999+400");
        y.word(99, 0, 0);
        right("a word behind the last day", y, 0, -400, 1);
        Dues.tell(y, 10, "999999+401");
        right("a word too far behind the last day", y, 0, 0, 0);
    }

    @Says("the s by which most of its ROOT WORDS (not COPIED) FIT some RETURN of a told COMET; of like ones the least size, then the one below 0. How many then.")
    static void mostOfItsWords() {
        SameStar x = Dues.opposite(36000, 40000);
        Dues.tell(x, 0, "e=0");
        right("no words", x, 2, 0, 0);
        int root = Dues.add(x, WORD, 2, 36100, 0, 0);
        right("one word", x, 2, -100, 1);
        Dues.add(x, WORD, 2, 35960, 0, 0);
        right("the least size", x, 2, 40, 1);
        Dues.add(x, WORD, 2, 36040, 0, 0);
        right("the one below 0", x, 2, -40, 1);
        Dues.add(x, WORD, 2, 76100, 0, 0);
        right("the most, of two returns", x, 2, -100, 2);
        for (int i = 0; i < 5; i++) x.word(20000 + 100 * COPIED + 99, 0, 1);
        right("copies", x, 2, -100, 2);
        x.word(30000 + 100 * COPIED + 99, 0, root);
        right("a people of copies alone", x, 3, 0, 0);
        Dues.add(x, WORD, 1, 36040, 0, 0);
        Dues.add(x, WORD, 1, 36040, 0, 0);
        right("words of another people", x, 2, -100, 2);
        Dues.add(x, WORD, 1, 36000, 0, 0);
        Dues.add(x, WORD, 1, 36000, 0, 0);
        right("as they are", x, 1, 0, 2);
    }

    @Says("PUT RIGHT: a PEOPLE's days moved by s")
    static void movedTwice() {
        SameStar x = Dues.opposite(36000, 40000);
        Dues.add(x, TWICE, 2, 36031, 10, WEST);
        right("west and east", x, 2, -30, 1);
        Dues.tell(x, 13, "r");
        x.reign(0, 36100, 35400);
        x.word(30000, 0, 0);
        right("two spans", x, 3, 0, 1);
        x.reign(0, 36130, 35400);
        right("the first of two spans", x, 3, -10, 1);
        x.reign(0, 35400, 36130);
        right("the other of two spans", x, 3, -10, 1);
    }

    @Says("NEXT: the PEOPLE and DAY to look for: the least DAY of a WATCH (then the least PEOPLE) on which its PEOPLE could see the first one (some RETURN) and not the other one (any RETURN).")
    static void nextToLookFor() {
        SameStar x = Dues.opposite(360000, 720);
        x.comet(20000, 40000, 5, 0);
        due("no watch", x.next(0, 1, 0), NOT);
        x.watch(5, 360121, 360599);
        due("a watch between returns", x.next(0, 1, 0), NOT);
        x.watch(5, 403321, 999999);
        due("a watch behind all returns", x.next(0, 1, 0), NOT);
        x.watch(8, 360000, 999999);
        int[][] watches = {{5, 360000}, {7, 359990}, {6, 359990}, {4, 359991}, {3, 316680}, {2, 0}};
        int[][] wants = {{360000, 5}, {359990, 7}, {359990, 6}, {359990, 6}, {316680, 3}, {316680, 2}};
        due("the day", x.next(0, 1, 0), 360000);
        due("the people", x.next(0, 1, 1), 8);
        for (int i = 0; i < watches.length; i++) {
            x.watch(watches[i][0], watches[i][1], 999999);
            due("the day", x.next(0, 1, 0), wants[i][0]);
            due("the people", x.next(0, 1, 1), wants[i][1]);
        }
    }

    @Says("could see the first one (some RETURN) and not the other one (any RETURN)")
    static void notTheOtherOne() {
        // The other one comes 240 days later: on 36120 both can be seen, on no other day.
        SameStar x = Dues.opposite(36000, 40000);
        Dues.addOpposite(x, 36240, 40000);
        Dues.addOpposite(x, 36240 + 720 * 40, 720);
        x.watch(0, 36120, 36130);
        due("both on the only day", x.next(0, 1, 0), NOT);
        due("the other one by a return ahead", x.next(0, 2, 0), NOT);
        due("the other way around", x.next(1, 0, 0), 36121);
        x.watch(0, 36119, 36119);
        due("the day ahead", x.next(0, 1, 0), 36119);
        due("the day ahead", x.next(0, 2, 0), 36119);
        Dues.tell(x, 0, "p=1");
        due("none that sees it", x.next(0, 1, 0), NOT);
    }

    @Says("the least DAY of a WATCH (then the least PEOPLE) on which its PEOPLE could see the first one (some RETURN)")
    static void nextByAnyReturn() {
        SameStar x = Dues.opposite(360000, 720);
        x.comet(20000, 40000, 5, 0);
        Dues.addOpposite(x, 403200 + 60, 40000);
        Dues.addOpposite(x, 316800 - 60, 40000);
        x.watch(0, 403201, 403320);
        due("by return 60", x.next(0, 1, 0), 403201);
        due("the other one by return 60", x.next(2, 0, 0), NOT);
        due("the first one alone, by return 60", x.next(0, 2, 0), NOT);
        SameStar y = Dues.opposite(360000, 720);
        y.comet(20000, 40000, 5, 0);
        Dues.addOpposite(y, 316800 - 60, 40000);
        y.watch(0, 316680, 316800);
        due("by return -60", y.next(0, 1, 0), 316680);
        due("the other one by return -60", y.next(2, 0, 0), NOT);
        Dues.tell(y, 0, "e=5|e=-7");
        due("on the day that lets it be seen", y.next(0, 1, 0), 316793);
        due("on the other comet's day", y.next(2, 0, 0), 316733);
        y.watch(0, 316801, 316805);
        due("the least of two days", y.next(0, 1, 0), 316793);
        Dues.tell(y, 0, "e=5");
        due("the other day alone", y.next(0, 1, 0), 316805);
    }

    // ---- promises

    @Says("WORTH of a set of COMETS: JUDGED. VOID: BAD.")
    static void judge() {
        SameStar x = new SameStar();
        due("none of none", x.judge(0), 0);
        due("one of none", x.judge(1), VOID);
        for (int i = 0; i < 12; i++) {
            x.comet(0, 200, 5, 0);
            due("all", x.judge((2 << i) - 1), -5 * (i + 1));
            due("one more", x.judge(2 << i), VOID);
        }
        for (int set : new int[] {LEAST, -1, 4096, 4097, MOST}) due("set " + set, x.judge(set), VOID);
    }

    @Says("BEST: the set (what 0), its WORTH (1). VOID: BAD. (Of the first 6 COMETS alone.)")
    static void best() {
        SameStar x = new SameStar();
        due("best of no comets", x.best(0), 0);
        due("its worth", x.best(1), 0);
        for (int what : new int[] {LEAST, -1, 2, MOST}) due("what " + what, x.best(what), VOID);
        for (int i = 0; i < 7; i++) Dues.addOpposite(x, 36000 + 1080 * i, 40000);
        addWords(x, 36000 + 6480, 36001 + 6480);
        due("the seventh is left aside", x.best(0), 0);
        due("its worth by hand", x.judge(64), 1);
        due("the seventh is left aside still", x.best(0), 0);
        addWords(x, 36000 + 5400, 36001 + 5400);
        due("both by hand", x.judge(96), 2);
        due("the sixth is not", x.best(0), 32);
        due("its worth", x.best(1), 1);
    }

    @Says("An EVENING: how many. BAD, FULL: 5.")
    static void observed() {
        SameStar x = new SameStar();
        for (int degree : new int[] {LEAST, -1, 360, MOST}) due("degree " + degree, x.observed(0, degree), BAD);
        for (int day : new int[] {LEAST, -1, 1000000, MOST}) due("day " + day, x.observed(day, 0), BAD);
        due("how many", x.count(5), 0);
        for (int i = 1; i <= 5; i++) due("observed", x.observed(0, 0), i);
        due("a bad degree where none has room", x.observed(0, 360), BAD);
        due("a bad day where none has room", x.observed(-1, 0), BAD);
        due("a good one where none has room", x.observed(0, 0), FULL);
    }

    @Says("PATHS with a PASS about a DAY, within a slack (0 .. 90): how many (what 0), the first one's PASS (1), REACH (2), WAY (3), NODE (4)")
    static void slacksOfPaths() {
        SameStar x = evenings(5000, 0, 5000, 90);
        for (int slack : new int[] {LEAST, -1, 91, MOST}) {
            for (int what = 0; what <= 4; what++) due("paths within " + slack, x.paths(5000, slack, what), BAD);
        }
        paths(x, 5060, 90, 2420, 5000, 5, 1, 0);
        noPaths(x, 5060, 0);
        paths(evenings(5000, 90, 5000, 90), 5060, 0, 2420, 5000, 5, 1, 90);
    }

    @Says("NOT. The EVENINGS stay. BAD; STATE (both ahead of that): fewer than 2.")
    static void pathsBadThenState() {
        SameStar x = new SameStar();
        int[][] bad = {
            {LEAST, 0, 0}, {-1, 0, 0}, {1000000, 0, 0}, {MOST, 0, 0}, {0, LEAST, 0}, {0, -1, 0}, {0, 91, 0}, {0, MOST, 0}, {0, 0, LEAST}, {0, 0, -1},
            {0, 0, 5}, {0, 0, MOST},
        };
        for (int evenings = 0; evenings <= 2; evenings++) {
            for (int[] b : bad) due("paths " + b[0] + ", " + b[1] + ", " + b[2], x.paths(b[0], b[1], b[2]), BAD);
            for (int what = 0; what <= 4; what++) due("paths of " + evenings, x.paths(9000, 90, what), evenings < 2 ? STATE : what == 0 ? 0 : NOT);
            x.observed(5000, 100);
        }
        due("paths of three", x.paths(5000, 90, 0), 2420);
        due("the evenings stay", x.count(5), 3);
        x.forget();
        due("paths of none again", x.paths(5000, 90, 0), STATE);
    }

    @Says("EVENINGS are none: how many there were.")
    static void forget() {
        SameStar x = new SameStar();
        due("forget none", x.forget(), 0);
        for (int i = 0; i < 5; i++) x.observed(5000, 100);
        due("forget five", x.forget(), 5);
        due("forget none", x.forget(), 0);
        due("how many", x.count(5), 0);
        due("the first again", x.observed(6000, 10), 1);
        x.observed(6000, 10);
        due("paths of the new ones", x.paths(6000, 0, 0), 2420);
        due("not of the old ones", x.paths(5000, 0, 0), 0);
    }

    @Says("ALIKE within x (0 .. 180): 1, 0. BAD.")
    static void alike() {
        SameStar x = new SameStar();
        x.comet(0, 200, 5, 0);
        due("itself", x.alike(0, 0, 0), 1);
        due("itself within 180", x.alike(0, 0, 180), 1);
        for (int within : new int[] {LEAST, -1, 181, MOST}) due("within " + within, x.alike(0, 0, within), BAD);
        for (int comet : new int[] {LEAST, -1, 1, MOST}) {
            due("comet " + comet, x.alike(comet, 0, 0), BAD);
            due("other " + comet, x.alike(0, comet, 0), BAD);
        }
    }

    @Says("PUT RIGHT of a PEOPLE by a COMET: s (what 0), how many (1). VOID: BAD.")
    static void rightBad() {
        SameStar x = Dues.opposite(36000, 40000);
        for (int people : new int[] {LEAST, -1, 9, MOST}) due("people " + people, x.right(people, 0, 0), VOID);
        for (int comet : new int[] {LEAST, -1, 1, MOST}) due("comet " + comet, x.right(0, comet, 0), VOID);
        for (int what : new int[] {LEAST, -1, 2, MOST}) due("what " + what, x.right(0, 0, what), VOID);
        right("people 0", x, 0, 0, 0);
        right("people 8", x, 8, 0, 0);
    }

    @Says("NEXT of two COMETS: the DAY (what 0), the PEOPLE (1); NOT. BAD (one and the same).")
    static void next() {
        SameStar x = Dues.opposite(36000, 40000);
        x.comet(0, 40000, 5, 0);
        due("one and the same", x.next(0, 0, 0), BAD);
        for (int what : new int[] {LEAST, -1, 2, MOST}) due("what " + what, x.next(0, 1, what), BAD);
        for (int comet : new int[] {LEAST, -1, 2, MOST}) {
            due("comet " + comet, x.next(comet, 0, 0), BAD);
            due("other " + comet, x.next(0, comet, 0), BAD);
        }
        due("what 0", x.next(0, 1, 0), NOT);
        due("what 1", x.next(0, 1, 1), NOT);
        x.watch(8, 0, 999999);
        due("one and the same, with a watch", x.next(1, 1, 1), BAD);
        due("the day", x.next(0, 1, 0), 35880);
        due("the people", x.next(0, 1, 1), 8);
    }
}
