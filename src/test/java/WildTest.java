import java.lang.management.ManagementFactory;
import java.util.Random;

/**
 * Calls with any numbers in any state: none throws or fails to end, and what is refused changes nothing
 * that can be counted. The objects that a run makes stay few: all calls of one run share one room.
 */
public final class WildTest {
    // So few draws, for an object is good for 512 calls, and one draw makes up to some forty.
    private static final int RUNS = 3000, DRAWS = 65, MOST_BYTES = 1500000;
    private static final int[] EDGES = {
        Integer.MIN_VALUE, Integer.MIN_VALUE + 1, -2000000000, -1000000, -401, -61, -60, -14, -2, -1, 0, 1, 2, 3, 4, 5, 6, 7, 8, 9, 10, 11, 12, 13, 18, 19,
        20, 23, 24, 59, 60, 61, 90, 91, 99, 100, 119, 120, 121, 149, 150, 180, 181, 199, 200, 201, 299, 359, 360, 400, 401, 799, 9999, 10000, 20000, 36000,
        40000, 80099, 100005, 135999, 999998, 999999, 1000000, 1000000000, Integer.MAX_VALUE - 1, Integer.MAX_VALUE,
    };
    private static final Dues DUES = new Dues("WildTest");

    public static void main(String[] args) {
        for (int run = 0; run < RUNS; run++) {
            wild(run % 2 == 0 ? new SameStar() : nearlyFull(), new Random(run));
        }
        room();
        DUES.end();
    }

    private static SameStar nearlyFull() {
        SameStar x = new SameStar();
        for (int i = 0; i < 3; i++) x.great(500 + i, 60);
        for (int i = 0; i < 9; i++) x.comet(4000 * i, 200 + i, 100 * i + 5, i);
        x.row(5, 1, 60);
        for (int i = 0; i < 60; i++) x.put(5, i, i % 5 == 0 ? i : i % 5 == 4 ? i % 3 == 0 ? 0 : 4 + i % 2 : 30 * i % 400);
        for (int i = 0; i < 12; i++) x.words(i % 9, 5, 0, 12);
        for (int i = 0; i < 9; i++) x.watch(i, 0, 999999);
        for (int i = 0; i < 4; i++) x.observed(4000 + i, i);
        return x;
    }

    private static int any(Random random) {
        int kind = random.nextInt(8);
        if (kind == 0) return random.nextInt();
        if (kind < 3) return EDGES[random.nextInt(EDGES.length)];
        return random.nextInt(kind < 6 ? 8 : 300);
    }

    private static void wild(SameStar x, Random r) {
        for (int i = 0; i < DRAWS; i++) {
            int a = any(r);
            int b = any(r);
            int c = any(r);
            int d = any(r);
            if (r.nextInt(3) == 0) grow(x, r);
            else call(x, r.nextInt(43), a, b, c, d, any(r));
        }
    }

    private static void grow(SameStar x, Random r) {
        switch (r.nextInt(8)) {
            case 0: x.great(100 + r.nextInt(500), r.nextInt(61)); break;
            case 1: x.comet(r.nextInt(40000), 200 + r.nextInt(900), 100 * r.nextInt(360) + 5 + r.nextInt(95), r.nextInt(10)); break;
            case 2: x.word(10000 * r.nextInt(9) + 100 * r.nextInt(8) + (r.nextInt(2) == 0 ? 99 : r.nextInt(20)), r.nextInt(401), r.nextInt(2)); break;
            case 3: x.date(r.nextInt(120), r.nextInt(13), r.nextInt(31)); break;
            case 4: x.reign(r.nextInt(20), r.nextInt(40000), r.nextInt(40000) - 1); break;
            case 5: x.watch(r.nextInt(9), r.nextInt(1000), 20000 + r.nextInt(900000)); break;
            case 6: x.broke(r.nextInt(12), r.nextInt(9) - 4); break;
            default: Dues.tell(x, r.nextInt(2) == 0 ? r.nextInt(2) : 10 + r.nextInt(9), "s-q*b%e|d?y*360+m*30+d-r;q<90+p");
        }
    }

    private static void call(SameStar x, int which, int a, int b, int c, int d, int e) {
        switch (which) {
            case 0: x.great(a, b); break;
            case 1: x.comet(a, b, c, d); break;
            case 2: x.ofComet(a, b); break;
            case 3: x.pass(a, b, c); break;
            case 4: x.stands(a, b, c, d); break;
            case 5: x.seen(a, b, c); break;
            case 6: x.feed(a, b); break;
            case 7: x.text(a); break;
            case 8: x.reign(a, b, c); break;
            case 9: x.watch(a, b, c); break;
            case 10: x.word(a, b, c); break;
            case 11: x.date(a, b, c); break;
            case 12: x.words(a, b, c, d); break;
            case 13: x.ofWord(a, b); break;
            case 14: x.span(a, b, c); break;
            case 15: x.fits(a, b, c); break;
            case 16: x.perhaps(a, b, c); break;
            case 17: x.whose(a, b); break;
            case 18: x.evening(a, b); break;
            case 19: x.behind(a, b); break;
            case 20: x.once(a); break;
            case 21: x.judge(a); break;
            case 22: x.best(a); break;
            case 23: x.observed(a, b); break;
            case 24: x.paths(a, b, c); break;
            case 25: x.forget(); break;
            case 26: x.alike(a, b, c); break;
            case 27: x.chance(a, b, c); break;
            case 28: x.foretold(a, b, c, d); break;
            case 29: x.right(a, b, c); break;
            case 30: x.broke(a, b); break;
            case 31: x.kin(a); break;
            case 32: x.next(a, b, c); break;
            case 33: x.act(a, b, c); break;
            case 34: x.trace(a); break;
            case 35: x.keep(a, b); break;
            case 36: x.row(a, b, c); break;
            case 37: x.put(a, b, (long) c << 32 | d); break;
            case 38: x.element(a, b); break;
            case 39: x.shift(a, b, c, d, e); break;
            case 40: x.taken(a, b); break;
            case 41: x.count(a); break;
            default: seenUnchanged(x, a, b, c, d);
        }
    }

    private static void seenUnchanged(SameStar x, int a, int b, int c, int d) {
        int[] counts = new int[7];
        for (int i = 0; i < 6; i++) counts[i] = x.count(i);
        int[] refused = {
            x.great(a, 61), x.comet(a, b, c, 10), x.watch(9, b, c), x.word(99, 401, c), x.observed(a, 360), x.feed(5, a), x.text(9), x.words(9, a, b, c),
        };
        for (int i = 0; i < refused.length; i++) due("refused " + i, refused[i], SameStar.BAD);
        for (int i = 0; i < 6; i++) due("count " + i + " after refusals", x.count(i), counts[i]);
        due("put nowhere", x.put(6, d, a), SameStar.BAD);
    }

    private static void due(String call, long got, long want) {
        DUES.due(call, got, want);
    }

    // A full object and its dearest calls, over and over: what is made is bounded by what is held.
    private static void room() {
        com.sun.management.ThreadMXBean threads = (com.sun.management.ThreadMXBean) ManagementFactory.getThreadMXBean();
        long id = Thread.currentThread().getId();
        fullRun(1);
        long before = threads.getThreadAllocatedBytes(id);
        fullRun(400);
        long made = threads.getThreadAllocatedBytes(id) - before;
        due("room: " + made + " bytes, too many", made > MOST_BYTES ? 1 : 0, 0);
    }

    private static void fullRun(int calls) {
        SameStar x = new SameStar();
        for (int i = 0; i < 12; i++) x.comet(36000, 2000 + i, 109010, i % 10);
        Dues.tell(x, 0, "q<100");
        for (int i = 0; i < 150; i++) {
            Dues.date(x, 36000 + 40 * i);
            x.word(10000 * (i % 9) + 99, 20, 0);
        }
        for (int i = 0; i < 9; i++) x.watch(i, 0, 999999);
        for (int i = 0; i < calls; i++) {
            x.judge(4095 - i);
            x.perhaps(i % 150, 0, 1);
            x.act(i % 150, 3, i);
            x.row(0, 3, 60);
            if (i % 20 == 0) x.right(i % 9, 0, 0);
        }
    }
}
