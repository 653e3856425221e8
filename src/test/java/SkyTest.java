/** Promises 1 to 7, 30, 32, 33: great bodies, comets, returns, where they stand, who sees them. */
public final class SkyTest {
    private static final int BAD = SameStar.BAD, NOT = SameStar.NOT, FULL = SameStar.FULL, STATE = SameStar.STATE, VOID = SameStar.VOID;
    private static final Dues DUES = new Dues("SkyTest");

    public static void main(String[] args) {
        newObject();
        greats();
        comets();
        partsOfComets();
        passesBehind();
        passesAhead();
        passesAtTheEnds();
        passesThatGoBack();
        fewerPasses();
        stands();
        seen();
        foretold();
        broke();
        brokenPasses();
        kin();
        DUES.end();
    }

    private static void due(String call, long got, long want) {
        DUES.due(call, got, want);
    }

    private static void newObject() {
        SameStar x = new SameStar();
        for (int what = 0; what <= 6; what++) due("new: count " + what, x.count(what), 0);
        due("count 7", x.count(7), BAD);
        due("count -1", x.count(-1), BAD);
        due("ofComet", x.ofComet(0, 0), VOID);
        due("ofWord", x.ofWord(0, 0), BAD);
        due("taken", x.taken(0, 0), -11);
        due("trace", x.trace(0), BAD);
    }

    private static void greats() {
        SameStar x = new SameStar();
        due("great round 99", x.great(99, 0), BAD);
        due("great round 20001", x.great(20001, 0), BAD);
        due("great pull -1", x.great(100, -1), BAD);
        due("great pull 61", x.great(100, 61), BAD);
        due("great first", x.great(100, 0), 0);
        due("great second", x.great(20000, 60), 1);
        x.great(500, 5);
        due("great fourth", x.great(600, 6), 3);
        due("great fifth", x.great(700, 7), FULL);
        due("great bad ahead of full", x.great(99, 7), BAD);
        due("count", x.count(0), 4);
    }

    private static void comets() {
        SameStar x = new SameStar();
        int[][] bad = {
            {-1, 200, 5, 0}, {1000000, 200, 5, 0}, {0, 199, 5, 0}, {0, 40001, 5, 0}, {0, 200, -1, 0}, {0, 200, 4, 0},
            {0, 200, 0, 0}, {0, 200, 36005, 0}, {0, 200, 136005, 0}, {0, 200, 99999, 0}, {0, 200, 200005, 0},
            {0, 200, 100004, 0}, {0, 200, -100005, 0}, {0, 200, 5, -1}, {0, 200, 5, 10},
        };
        for (int[] b : bad) due("comet " + b[0] + ", " + b[1] + ", " + b[2] + ", " + b[3], x.comet(b[0], b[1], b[2], b[3]), BAD);
        due("comet least", x.comet(0, 200, 5, 0), 0);
        due("comet most", x.comet(999999, 40000, 135999, 9), 1);
        for (int i = 2; i < 12; i++) due("comet " + i, x.comet(100, 300, 100 * i + 10, 1), i);
        due("comet 13th", x.comet(100, 300, 5, 1), FULL);
        due("comet bad ahead of full", x.comet(100, 199, 5, 1), BAD);
        due("count", x.count(1), 12);
    }

    private static void partsOfComets() {
        SameStar x = new SameStar();
        x.comet(999999, 40000, 135999, 9);
        x.comet(7, 201, 105, 0);
        int[][] want = {{999999, 40000, 359, 99, -1, 9, -1, VOID}, {7, 201, 1, 5, 1, 0, -1, VOID}};
        for (int i = 0; i < 2; i++) {
            for (int what = 0; what < 8; what++) due("ofComet " + i + ", " + what, x.ofComet(i, what), want[i][what]);
        }
        due("ofComet what 8", x.ofComet(0, 8), VOID);
        due("ofComet what -1", x.ofComet(0, -1), VOID);
        due("ofComet 2", x.ofComet(2, 0), VOID);
        due("ofComet -1", x.ofComet(-1, 0), VOID);
    }

    private static void passesBehind() {
        SameStar x = new SameStar();
        x.comet(5200, 300, 5, 0);
        due("pass without greats", x.pass(0, 2, 0), 5800);
        x.great(1000, 10);
        due("pass 0", x.pass(0, 0, 0), 5200);
        due("pass 1: more, below half", x.pass(0, 1, 0), 5510);
        due("pass 2: less, above half", x.pass(0, 2, 0), 5800);
        due("pass 3", x.pass(0, 3, 0), 6090);
        due("pass 4", x.pass(0, 4, 0), 6400);
        x.comet(1500, 300, 5, 0);
        due("pass: less at half", x.pass(1, 1, 0), 1790);
        x.comet(1499, 300, 5, 0);
        due("pass: more under half", x.pass(2, 1, 0), 1809);
        x.great(101, 7);
        x.comet(50, 300, 5, 0);
        due("pass: odd round, 100 below 101", x.pass(3, 1, 0), 50 + 300 + 10 + 7);
        x.comet(51, 300, 5, 0);
        due("pass: odd round, 102 not below 101", x.pass(4, 1, 0), 51 + 300 + 10 - 7);
        due("wide 0", x.pass(0, 0, 1), 0);
        due("wide 3", x.pass(0, 3, 1), 51);
        due("wide -2", x.pass(0, -2, 1), 34);
    }

    private static void passesAhead() {
        SameStar x = new SameStar();
        x.great(1000, 10);
        x.comet(5200, 300, 5, 0);
        due("ahead: 4910 comes to 5200", x.pass(0, -1, 0), 4910);
        due("ahead: 4620 comes to 4910", x.pass(0, -2, 0), 4620);
        x.comet(5300, 300, 5, 0);
        due("ahead: none comes to 5300", x.pass(1, -1, 0), 5000);
        x.comet(5800, 300, 5, 0);
        due("ahead: the greater of 5490 and 5510", x.pass(2, -1, 0), 5510);
        x.comet(310, 300, 5, 0);
        due("ahead: 0 is a day", x.pass(3, -1, 0), 0);
        due("ahead of 0", x.pass(3, -2, 0), NOT);
        x.comet(305, 300, 5, 0);
        due("ahead: none at 0 or behind", x.pass(4, -1, 0), 5);
        x.comet(290, 300, 5, 0);
        due("ahead: below 0", x.pass(5, -1, 0), NOT);
        due("ahead: wide of none", x.pass(5, -1, 1), NOT);
        due("ahead: beyond none", x.pass(5, -60, 0), NOT);
    }

    private static void passesAtTheEnds() {
        SameStar x = new SameStar();
        x.comet(999400, 300, 5, 0);
        due("pass 1", x.pass(0, 1, 0), 999700);
        due("pass 2", x.pass(0, 2, 0), NOT);
        x.comet(999399, 300, 5, 0);
        due("pass at 999999", x.pass(1, 2, 0), 999999);
        x.comet(500000, 200, 5, 0);
        due("pass 60", x.pass(2, 60, 0), 512000);
        due("pass -60", x.pass(2, -60, 0), 488000);
        due("pass 61", x.pass(2, 61, 0), BAD);
        due("pass -61", x.pass(2, -61, 0), BAD);
        due("pass what 2", x.pass(2, 0, 2), BAD);
        due("pass what -1", x.pass(2, 0, -1), BAD);
        due("pass of none", x.pass(3, 0, 0), BAD);
        due("pass of -1", x.pass(-1, 0, 0), BAD);
    }

    // Pulls may be more than the span: then a next pass is ahead of its own.
    private static void passesThatGoBack() {
        SameStar x = new SameStar();
        x.comet(15000, 200, 5, 0);
        for (int i = 0; i < 4; i++) x.great(20000, 60);
        due("back: pass 1", x.pass(0, 1, 0), 14960);
        due("back: pass 2", x.pass(0, 2, 0), 14920);
        due("back: pass -1, none comes there from ahead", x.pass(0, -1, 0), 14800);
        x.comet(100, 200, 5, 0);
        due("back: pass 1 far on", x.pass(1, 1, 0), 540);
        SameStar y = new SameStar();
        y.comet(15000, 200, 5, 0);
        for (int i = 0; i < 4; i++) y.great(20000, 50);
        due("still: pass 1", y.pass(0, 1, 0), 15000);
        due("still: the pass ahead is below", y.pass(0, -1, 0), 14800);
    }

    private static void fewerPasses() {
        SameStar x = new SameStar();
        x.comet(999340, 300, 5, 0);
        x.comet(610, 300, 5, 0);
        due("pass 2 without greats", x.pass(0, 2, 0), 999940);
        due("pass -2 without greats", x.pass(1, -2, 0), 10);
        x.great(20000, 60);
        due("pass 1 by a great", x.pass(0, 1, 0), 999580);
        due("pass -1 by a great", x.pass(1, -1, 0), 250);
        due("pass -2 by a great", x.pass(1, -2, 0), NOT);
        SameStar y = new SameStar();
        y.comet(999340, 300, 5, 0);
        y.comet(999640, 300, 5, 0);
        y.comet(310, 300, 5, 0);
        due("pass 1 without greats", y.pass(1, 1, 0), 999940);
        due("pass -1 without greats", y.pass(2, -1, 0), 10);
        y.great(100, 60);
        due("no pass 1 by a great", y.pass(1, 1, 0), NOT);
        y.great(20000, 60);
        due("pass -1 by two greats, to which none comes", y.pass(2, -1, 0), 10);
        y = new SameStar();
        y.comet(999340, 300, 5, 0);
        y.great(100, 60);
        due("pass 1 by another great", y.pass(0, 1, 0), 999700);
        due("pass 2 by another great", y.pass(0, 2, 0), NOT);
    }

    private static void stands() {
        SameStar x = new SameStar();
        x.comet(3600, 1000, 9010, 5);
        x.comet(3600, 1000, 100010, 5);
        int[][] want = {
            // day, degree, distance, apart
            {3610, 135, 20, 125}, {3590, 45, 20, 55}, {3607, 127, 17, 120}, {3593, 53, 17, 60}, {3600, 90, 10, 90},
            {3720, 173, 130, 53}, {3480, 7, 130, 127},
        };
        for (int[] w : want) {
            for (int what = 0; what < 3; what++) due("stands " + w[0] + ", " + what, x.stands(0, 0, w[0], what), w[what + 1]);
        }
        due("stands way -1", x.stands(1, 0, 3610, 0), 315);
        due("stands way -1 ahead", x.stands(1, 0, 3590, 0), 45);
        due("stands far behind", x.stands(0, 0, 3721, 0), NOT);
        due("stands far ahead", x.stands(0, 0, 3479, 3), NOT);
        due("stands by return 1", x.stands(0, 1, 4610, 0), 135);
        due("stands by no return", x.stands(0, -4, 3600, 0), NOT);
        due("stands tail without a text", x.stands(0, 0, 3610, 3), 0);
        String[] texts = {"s-100", "q", "b", "g-100", "e", "d", "p+4", "y+m+r+7", "b*30", "b*20-1", "-b", "99+0*s"};
        int[] tails = {25, 20, 5, 35, 10, 10, 4, 7, 99, 99, 0, 99};
        for (int i = 0; i < texts.length; i++) {
            due("text " + texts[i], Dues.tell(x, 1, texts[i]), 1);
            due("tail by " + texts[i], x.stands(0, 0, 3610, 3), tails[i]);
        }
        due("stands what 4", x.stands(0, 0, 3610, 4), BAD);
        due("stands what -1", x.stands(0, 0, 3610, -1), BAD);
        due("stands day -1", x.stands(0, 0, -1, 0), BAD);
        due("stands day 1000000", x.stands(0, 0, 1000000, 0), BAD);
        due("stands k 61", x.stands(0, 61, 3610, 0), BAD);
        due("stands comet 2", x.stands(2, 0, 3610, 0), BAD);
        due("stands bad ahead of not", x.stands(0, 0, 0, 4), BAD);
    }

    private static void seen() {
        SameStar x = new SameStar();
        int[] nodes = {14, 15, 345, 346};
        int[] want = {VOID, 0, 0, VOID};
        for (int i = 0; i < 4; i++) {
            x.comet(3600, 40000, 100 * nodes[i] + 10, 5);
            due("seen with node " + nodes[i], x.seen(i, 0, 3600), want[i]);
        }
        x.comet(3600, 200, 9010, 5);
        due("seen: the first return of two", x.seen(4, 8, 3500), -1);
        due("seen at 120", x.seen(1, 0, 3720), 0);
        due("seen at 121", x.seen(1, 0, 3721), VOID);
        due("text", Dues.tell(x, 0, "p=2&e<0-90"), 1);
        due("seen by 2: return 0", x.seen(4, 2, 3500), 0);
        due("seen by 1", x.seen(4, 1, 3500), VOID);
        due("text", Dues.tell(x, 0, "p=1"), 1);
        due("seen by 2 no more", x.seen(4, 2, 3500), VOID);
        due("seen by 1 now", x.seen(4, 1, 3500), -1);
        due("text", Dues.tell(x, 0, "0-7"), 1);
        due("seen by what is not 0", x.seen(4, 1, 3500), -1);
        due("seen node 14 whatever the text", x.seen(0, 1, 3600), VOID);
        due("seen ahead of a great body's coming", x.seen(4, 1, 3575), 0);
        x.great(100, 60);
        due("seen after it came: pass -1", x.pass(4, -1, 0), 3460);
        due("seen after it came", x.seen(4, 1, 3575), -1);
        seenByTheMoon();
        due("seen people 9", x.seen(1, 9, 3600), VOID);
        due("seen people -1", x.seen(1, -1, 3600), VOID);
        due("seen day -1", x.seen(1, 0, -1), VOID);
        due("seen day 1000000", x.seen(1, 0, 1000000), VOID);
        due("seen comet 5", x.seen(5, 0, 3600), VOID);
    }

    // A day that is as far from its pass as another one was may be seen otherwise.
    private static void seenByTheMoon() {
        SameStar x = Dues.opposite(36000, 7200);
        Dues.tell(x, 0, "d=0");
        due("seen on 43200", x.seen(0, 0, 43200), 1);
        due("not seen on 43210", x.seen(0, 0, 43210), VOID);
        x.great(20000, 10);
        due("the pass by a great body", x.pass(0, 1, 0), 43190);
        due("not seen on that pass", x.seen(0, 0, 43190), VOID);
        due("seen 10 days behind it", x.seen(0, 0, 43200), 1);
    }

    private static void foretold() {
        SameStar x = new SameStar();
        x.comet(5200, 300, 5, 0);
        x.great(1000, 10);
        x.great(2000, 3);
        // 5200 % 2000 is 1200, not below half of it; 5510 - 3 is 5507.
        due("foretold by none", x.foretold(0, 1, 0, 0), 5500);
        due("foretold by the first", x.foretold(0, 1, 1, 0), 5510);
        due("foretold by the second", x.foretold(0, 1, 2, 0), 5497);
        due("foretold by both", x.foretold(0, 1, 3, 0), 5507);
        due("late by none", x.foretold(0, 1, 0, 1), 7);
        due("late by the first", x.foretold(0, 1, 1, 1), -3);
        due("late by both", x.foretold(0, 60, 3, 1), 0);
        due("foretold 0", x.foretold(0, 0, 0, 0), 5200);
        due("foretold -1", x.foretold(0, -1, 0, 0), VOID);
        due("foretold 61", x.foretold(0, 61, 0, 0), VOID);
        due("foretold set 4", x.foretold(0, 1, 4, 0), VOID);
        due("foretold set -1", x.foretold(0, 1, -1, 0), VOID);
        due("foretold what 2", x.foretold(0, 1, 0, 2), VOID);
        due("foretold comet 1", x.foretold(1, 1, 0, 0), VOID);
        x.comet(999690, 300, 5, 0);
        // 999690: the first less, the second less: 999977; without them 999990; no next of either.
        due("foretold near the end", x.foretold(1, 1, 0, 0), 999990);
        due("foretold beyond the end", x.foretold(1, 2, 0, 0), VOID);
        x.comet(999710, 300, 5, 0);
        due("foretold: none by none", x.foretold(2, 1, 0, 0), VOID);
        due("foretold: one by both", x.foretold(2, 1, 3, 0), 999997);
        due("late: none by none", x.foretold(2, 1, 0, 1), VOID);
        x.comet(998999 - 300, 300, 5, 0);
        due("late: below 0", x.foretold(3, 1, 0, 1), -7);
        SameStar y = new SameStar();
        y.great(20000, 60);
        y.comet(980000, 19990, 5, 0);
        due("late: the foretold one is", y.foretold(0, 1, 0, 0), 999990);
        due("late: the other one is not", y.foretold(0, 1, 0, 1), VOID);
    }

    private static void broke() {
        SameStar x = new SameStar();
        x.comet(5000, 200, 135905 - 100000, 0);
        x.comet(5000, 40000, 100005, 9);
        due("broke k 61", x.broke(0, 61), BAD);
        due("broke comet 2", x.broke(2, 0), BAD);
        due("broke -26: no such return", x.broke(0, -26), NOT);
        due("broke", x.broke(0, 2), 2);
        int[][] want = {{5400, 230, 0, 5, 1, 0, 0, VOID}, {5400, 170, 358, 5, 1, 0, 0, VOID}};
        for (int i = 0; i < 2; i++) {
            for (int what = 0; what < 8; what++) due("ofComet " + (i + 2) + ", " + what, x.ofComet(i + 2, what), want[i][what]);
        }
        due("ofComet 0, 7", x.ofComet(0, 7), 2);
        due("broke again", x.broke(0, 0), STATE);
        due("broke again: no such return ahead of that", x.broke(0, -26), NOT);
        due("broke 1", x.broke(1, 0), 4);
        int[][] other = {{5000, 40030, 1, 5, -1, 8, 1, VOID}, {5000, 39970, 359, 5, -1, 8, 1, VOID}};
        for (int i = 0; i < 2; i++) {
            for (int what = 0; what < 8; what++) due("ofComet " + (i + 4) + ", " + what, x.ofComet(i + 4, what), other[i][what]);
        }
        due("broke 3", x.broke(3, 0), 6);
        due("ofComet 7, 1", x.ofComet(7, 1), 140);
        due("count", x.count(1), 8);
        due("broke 2", x.broke(2, 0), 8);
        due("comet 10", x.comet(1, 200, 5, 0), 10);
        due("broke: room for one alone", x.broke(4, 0), FULL);
        due("broke: it broke, ahead of full", x.broke(0, 0), STATE);
        due("broke 4 did not", x.ofComet(4, 7), VOID);
        due("comet 11", x.comet(1, 200, 5, 0), 11);
        due("broke: no room", x.broke(4, 0), FULL);
    }

    private static void brokenPasses() {
        SameStar x = new SameStar();
        x.comet(5000, 300, 5, 0);
        x.broke(0, -1);
        due("pass of the first part", x.pass(1, 1, 0), 5030);
        due("pass of the other part", x.pass(2, 1, 0), 4970);
        due("pass of the other part ahead", x.pass(2, -1, 0), 4430);
    }

    private static void kin() {
        SameStar x = new SameStar();
        for (int i = 0; i < 3; i++) x.comet(5000, 300, 5, 0);
        due("kin alone", x.kin(1), 2);
        x.broke(1, 0);
        x.broke(4, 0);
        x.broke(0, 0);
        int[] want = {1 | 128 | 256, 2 | 8 | 16 | 32 | 64, 4};
        int[] firstOf = {0, 1, 2, 1, 1, 1, 1, 0, 0};
        for (int i = 0; i < 9; i++) due("kin " + i, x.kin(i), want[firstOf[i]]);
        due("kin 9", x.kin(9), BAD);
        due("kin -1", x.kin(-1), BAD);
    }
}
