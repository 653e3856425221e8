/** The paragraph of answers: what is refused changes nothing, and of several answers which one is given. */
public final class RefusalEdgesTest {
    private static final int BAD = SameStar.BAD, NOT = SameStar.NOT, FULL = SameStar.FULL, STATE = SameStar.STATE, VOID = SameStar.VOID;

    private interface Call {
        long on(SameStar x);
    }

    public static void main(String[] args) throws Exception {
        Edges.runAll(RefusalEdgesTest.class);
    }

    private static void due(String call, long got, long want) {
        Edges.due(call, got, want);
    }

    /** Some of all that can be held. */
    private static SameStar some() {
        SameStar x = new SameStar();
        x.great(1000, 10);
        x.comet(36000, 7200, 18099, 5);
        x.comet(999999, 40000, 109010, 3);
        x.broke(1, 0);
        x.reign(3, 35000, 36000);
        Dues.tell(x, 0, "q<200");
        Dues.tell(x, 1, "e+50");
        Dues.tell(x, 12, "360*y+30*m+d+r");
        x.date(100, 0, 1);
        for (int kind = 0; kind < 8; kind++) x.word(10000 + 100 * kind + 99, 20, kind == 6 ? 12 : 0);
        x.date(1, 2, 3);
        x.word(20003, 5, 0);
        x.watch(1, 35000, 37000);
        for (int i = 0; i < 3; i++) x.observed(5000, 100);
        x.keep(1, 7);
        x.row(2, 1, 5);
        x.put(2, 4, 9);
        x.row(3, 3, 2);
        x.put(3, 1, -1);
        x.feed(3, '4' | '+' << 8 | '3' << 16);
        x.act(7, 3, 5);
        return x;
    }

    /** As many of all as there can be. */
    private static SameStar full() {
        SameStar x = some();
        for (int i = 1; i < 4; i++) x.great(2000, i);
        for (int i = 4; i < 12; i++) x.comet(36000, 7200, 18099, 5);
        x.row(4, 1, 60);
        for (int i = 9; i < 150; i += 12) x.words(0, 4, 0, 12);
        for (int i = 1; i < 10; i++) x.watch(1, 43000, 43001);
        for (int i = 3; i < 5; i++) x.observed(5000, 100);
        for (int i = 3; i < 119; i += 4) x.feed(4, '+' | '0' << 8 | '+' << 16 | '0' << 24);
        x.feed(1, '0');
        return x;
    }

    /** Answers that tell of all that is held; the last of them use it up. */
    private static String told(SameStar x) {
        StringBuilder told = new StringBuilder();
        for (int what = 0; what <= 6; what++) told.append(x.count(what)).append(' ');
        for (int comet = 0; comet < 4; comet++) {
            for (int what = 0; what <= 7; what++) told.append(x.ofComet(comet, what)).append(' ');
            told.append(x.pass(comet, 1, 0)).append(' ').append(x.pass(comet, -1, 0)).append(' ').append(x.pass(comet, 1, 1)).append(' ');
            told.append(x.kin(comet)).append(' ').append(x.seen(comet, 1, 36010)).append(' ').append(x.stands(comet, 0, 36010, 3)).append('\n');
        }
        for (int word = 0; word < 9; word++) {
            for (int what = 0; what <= 9; what++) told.append(x.ofWord(word, what)).append(' ');
            for (int i = 0; i < 2; i++) told.append(x.span(word, i, 0)).append(' ').append(x.span(word, i, 1)).append(' ');
            told.append(x.fits(word, 0, 0)).append(' ').append(x.whose(word, 0)).append('\n');
        }
        for (int page = 0; page < 6; page++) {
            told.append(x.taken(page, 0)).append(' ');
            for (int i = 0; i < 5; i++) told.append(x.element(page, i)).append(' ');
        }
        for (int i = 0; i < 8; i++) told.append(x.trace(i)).append(' ');
        for (int what = 0; what < 5; what++) told.append(x.paths(5000, 5, what)).append(' ');
        told.append(x.judge(15)).append(' ').append(x.once(-1)).append(' ').append(x.right(1, 0, 1)).append(' ').append(x.next(0, 1, 0)).append('\n');
        told.append(x.text(1)).append(' ').append(x.stands(0, 0, 36010, 3)).append(' ').append(x.forget()).append(' ');
        int word = x.word(99, 0, 0);
        for (int what = 2; what <= 4; what++) told.append(x.ofWord(word, what)).append(' ');
        return told.toString();
    }

    private static void refused(String of, SameStar x, Call call, long want, String before) {
        due(of, call.on(x), want);
        due(of + ": what is held then is as before", told(x).equals(before) ? 1 : 0, 1);
    }

    @Says("What is answered so changes nothing.")
    static void badChangesNothing() {
        String before = told(some());
        Call[] bad = {
            x -> x.great(99, 1), x -> x.great(100, 61), x -> x.comet(-1, 200, 5, 0), x -> x.comet(0, 199, 5, 0), x -> x.comet(0, 200, 4, 0),
            x -> x.comet(0, 200, 36005, 0), x -> x.comet(0, 200, 5, 10), x -> x.pass(0, 61, 0), x -> x.stands(0, 0, -1, 0), x -> x.feed(0, 1),
            x -> x.feed(5, 1), x -> x.text(2), x -> x.text(9), x -> x.text(19), x -> x.reign(20, 1, -1), x -> x.reign(3, -1, -1), x -> x.reign(3, 1, -2),
            x -> x.reign(3, 1, 1000000), x -> x.watch(9, 1, 2), x -> x.watch(1, 2, 1), x -> x.word(90099, 0, 0), x -> x.word(899, 0, 0),
            x -> x.word(4, 0, 0), x -> x.word(99, 401, 0), x -> x.word(199, 0, 24), x -> x.word(299, 0, 2), x -> x.word(399, 0, 9),
            x -> x.date(10000, 1, 1), x -> x.date(1, -1, 1), x -> x.date(1, 1, 10000), x -> x.words(9, 2, 0, 1), x -> x.words(1, 6, 0, 1),
            x -> x.words(1, 2, 0, 13), x -> x.ofWord(0, 10), x -> x.fits(9, 0, 0), x -> x.evening(0, 9), x -> x.behind(1, 1), x -> x.once(9),
            x -> x.observed(-1, 0), x -> x.observed(0, 360), x -> x.paths(5000, 91, 0), x -> x.alike(0, 1, 181), x -> x.chance(181, 1, 1),
            x -> x.broke(0, 61), x -> x.broke(4, 0), x -> x.kin(4), x -> x.next(1, 1, 0), x -> x.trace(7), x -> x.keep(6, 0), x -> x.keep(1, 9),
            x -> x.keep(1, -2), x -> x.row(6, 0, 1), x -> x.row(2, 5, 1), x -> x.row(2, 1, 61), x -> x.put(6, 0, 1), x -> x.shift(2, 0, 6, 0, 1),
            x -> x.taken(1, 8), x -> x.count(7),
        };
        for (int i = 0; i < bad.length; i++) refused("bad call " + i, some(), bad[i], BAD, before);
        Call[] isVoid = {
            x -> x.ofComet(4, 0), x -> x.seen(0, 9, 0), x -> x.span(0, 2, 0), x -> x.perhaps(9, 0, 0), x -> x.whose(9, 0), x -> x.judge(16), x -> x.judge(-1),
            x -> x.best(2), x -> x.foretold(0, 61, 0, 0), x -> x.foretold(0, 1, 2, 0), x -> x.right(9, 0, 0), x -> x.right(1, 4, 0),
        };
        for (int i = 0; i < isVoid.length; i++) refused("void call " + i, some(), isVoid[i], VOID, before);
    }

    @Says("NOT (-2): as told")
    static void notChangesNothing() {
        String before = told(some());
        Call[] not = {
            x -> x.pass(1, 1, 0), x -> x.pass(1, 1, 1), x -> x.stands(1, 1, 5, 0), x -> x.stands(0, 0, 5, 0), x -> x.fits(0, 1, 1), x -> x.fits(0, 0, 1),
            x -> x.perhaps(0, 1, 1), x -> x.perhaps(0, 0, 1), x -> x.evening(0, 8), x -> x.behind(8, 0), x -> x.paths(9000, 5, 1), x -> x.broke(1, 1),
            x -> x.broke(2, 1), x -> x.next(1, 0, 0),
        };
        for (int i = 0; i < not.length; i++) refused("call " + i + " of no such thing", some(), not[i], NOT, before);
    }

    @Says("FULL (-3)")
    static void fullChangesNothing() {
        String before = told(full());
        Call[] fulls = {
            x -> x.great(100, 1), x -> x.comet(0, 200, 5, 0), x -> x.feed(1, '1'), x -> x.feed(4, '1'), x -> x.watch(1, 5, 6), x -> x.word(99, 0, 0),
            x -> x.observed(5000, 200), x -> x.broke(0, 0),
        };
        for (int i = 0; i < fulls.length; i++) refused("full call " + i, full(), fulls[i], FULL, before);
        refused("no room for a word of a row", full(), x -> x.words(1, 2, 0, 1), 0, before);
    }

    @Says("STATE (-5): as told")
    static void stateChangesNothing() {
        refused("it broke", some(), x -> x.broke(1, 0), STATE, told(some()));
        SameStar one = new SameStar();
        one.observed(5000, 100);
        due("paths of one evening", one.paths(5000, 5, 0), STATE);
        due("the evening stays", one.count(5), 1);
    }

    @Says("-11 to -14")
    static void refusalsChangeNothing() {
        String before = told(some());
        Call[] calls = {
            x -> x.put(0, 0, 1), x -> x.shift(0, 0, 2, 0, 1), x -> x.taken(0, 0), x -> x.put(1, 0, 1), x -> x.shift(1, 0, 2, 0, 1), x -> x.shift(3, 0, 2, 0, 1),
            x -> x.taken(1, 3), x -> x.taken(2, 0), x -> x.words(1, 3, 0, 1), x -> x.words(1, 1, 0, 1), x -> x.put(2, 5, 1), x -> x.put(2, -1, 1),
            x -> x.shift(2, 0, 2, 1, 5), x -> x.shift(2, 0, 2, 1, -1), x -> x.row(2, 1, -1), x -> x.row(0, 1, -1),
        };
        int[] wants = {-11, -11, -11, -12, -12, -12, -12, -12, -12, -12, -13, -13, -13, -13, -14, -14};
        for (int i = 0; i < calls.length; i++) refused("refusal " + i, some(), calls[i], wants[i], before);
        refused("an element that is not there", some(), x -> x.element(2, 5), Long.MIN_VALUE, before);
        refused("words from -1 on", some(), x -> x.words(1, 2, -1, 1), 0, before);
        refused("words of a five that is not so", some(), x -> x.words(1, 2, 0, 1), 0, before);
    }

    @Says("Answers, of several the one named first, but a call's own line goes ahead")
    static void namedFirst() {
        SameStar x = full();
        due("great: bad, full", x.great(99, 1), BAD);
        due("comet: bad, full", x.comet(-1, 200, 5, 0), BAD);
        due("feed: bad, full", x.feed(5, 1), BAD);
        due("watch: bad, full", x.watch(9, 1, 2), BAD);
        due("word: bad, full", x.word(899, 0, 0), BAD);
        due("observed: bad, full", x.observed(0, 360), BAD);
        due("pass: bad, no such return", x.pass(1, 1, 2), BAD);
        due("stands: bad, no such return", x.stands(1, 1, -1, 0), BAD);
        due("stands: bad, far", x.stands(0, 0, 5, 4), BAD);
        due("fits: bad, no such return", x.fits(150, 1, 1), BAD);
        due("perhaps: bad, no such return", x.perhaps(150, 1, 1), VOID);
        due("evening: bad, no day", x.evening(150, 8), BAD);
        due("behind: one and the same, none", x.behind(8, 8), BAD);
        due("next: one and the same, none", x.next(1, 1, 0), BAD);
        due("broke: bad, it broke", x.broke(1, 61), BAD);
        due("broke: no such return, it broke", x.broke(1, 1), NOT);
        due("broke: it broke, full", x.broke(1, 0), STATE);
        due("paths: bad, none", x.paths(9000, 91, 1), BAD);
        due("row: bad, below 0", x.row(0, 5, -1), BAD);
        due("put: nothing there, no such place", x.put(0, -1, 1), -11);
        due("put: a word, no such place", x.put(1, -1, 1), -12);
        due("shift: nothing there, a word", x.shift(0, 0, 1, 0, -1), -11);
        due("shift: a word, no such place", x.shift(1, 0, 2, 0, -1), -12);
        due("taken: bad, nothing there", x.taken(0, 8), BAD);
        due("words: bad, no row of shorts", x.words(9, 3, 0, 1), BAD);
        due("words: no row of shorts, from -1 on", x.words(1, 3, -1, 1), -12);
        x.forget();
        due("paths: bad, too few", x.paths(5000, 91, 0), BAD);
        due("paths: too few, none", x.paths(9000, 5, 1), STATE);
    }
}
