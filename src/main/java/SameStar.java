import java.util.Arrays;

/**
 * Was it the same one: stars with tails in the books of peoples. What each call answers is told by
 * the numbered promises of DOC.md; words in capitals there bear the same names here.
 */
public final class SameStar {
    public static final int BAD = -1, NOT = -2, FULL = -3, STATE = -5, VOID = -2000000000;

    private static final int NOTHING_THERE = -11, OTHER_KIND = -12, NO_SUCH_PLACE = -13, BELOW_ZERO = -14;

    private static final int LAST_DAY = 999999, NO_DAY = -1, NO_REIGN = -1, UNTOLD_REIGN = 99;
    private static final int CIRCLE = 360, HALF_CIRCLE = 180, LODGES = 24, LODGE_WIDTH = 15;
    private static final int PEOPLES = 9, REIGNS = 20, MOST_SLACK = 400, MOST_DATE = 9999;
    private static final int MOST_RETURNS = 60, RETURNS = 2 * MOST_RETURNS + 1, FAR = 120, WINDOW = 2 * FAR + 1;

    private static final int MOST_GREATS = 4, MOST_COMETS = 12, MOST_WORDS = 150, MOST_WATCHES = 10;
    private static final int COMETS_WEIGHED_BY_BEST = 6;

    private static final int WORD = 0, PLACED = 1, SEEN = 2, COPIED = 3, MOVED = 4, NEW_STAR = 5,
            MEASURED = 6, TWICE = 7, KINDS = 8;
    private static final int[] ABOVE = {-1, WORD, WORD, WORD, WORD, WORD, PLACED, SEEN};

    private final Sky sky = new Sky();
    private final Tape tape = new Tape();
    private final Sight sight = new Sight();
    private final Book book = new Book();
    private final Story story = new Story(sky, book, sight);
    private final Evenings evenings = new Evenings();
    private final Acts acts = new Acts();
    private final Pages pages = new Pages();

    public SameStar() {
    }

    // ---- sky

    public int great(int round, int pull) {
        if (!within(round, 100, 20000) || !within(pull, 0, 60)) return BAD;
        if (sky.greats >= MOST_GREATS) return FULL;
        sight.forgetSights();
        story.forgetWeights();
        return sky.addGreat(round, pull);
    }

    public int comet(int pass, int span, int path, int bright) {
        if (!within(pass, 0, LAST_DAY) || !within(span, 200, 40000)) return BAD;
        if (!within(path, 0, 199999) || !within(bright, 0, 9)) return BAD;
        int node = path % 100000 / 100;
        int reach = path % 100;
        if (node >= CIRCLE || reach < 5) return BAD;
        if (sky.comets >= MOST_COMETS) return FULL;
        int way = path >= 100000 ? -1 : 1;
        return sky.addComet(new Comet(pass, span, node, reach, way, bright, -1));
    }

    public int ofComet(int comet, int what) {
        Comet c = sky.cometAt(comet);
        if (c == null) return VOID;
        switch (what) {
            case 0: return c.pass;
            case 1: return c.span;
            case 2: return c.node;
            case 3: return c.reach;
            case 4: return c.way;
            case 5: return c.bright;
            case 6: return c.parent;
            case 7: return c.brokeOn;
            default: return VOID;
        }
    }

    public int pass(int comet, int k, int what) {
        Comet c = sky.cometAt(comet);
        if (c == null || !isReturnNumber(k) || !within(what, 0, 1)) return BAD;
        if (!c.hasReturn(k)) return NOT;
        return what == 0 ? c.passOf(k) : sky.wideOf(k);
    }

    public int stands(int comet, int k, int day, int what) {
        Comet c = sky.cometAt(comet);
        if (c == null || !isReturnNumber(k) || !isDay(day) || !within(what, 0, 3)) return BAD;
        if (!c.hasReturn(k)) return NOT;
        int e = day - c.passOf(k);
        if (isFar(e)) return NOT;
        switch (what) {
            case 0: return c.degreeAt(e);
            case 1: return c.distanceAt(e);
            case 2: return c.apartOfSun(e, day);
            default: return sight.tailOf(c, 0, e, day);
        }
    }

    public int seen(int comet, int people, int day) {
        Comet c = sky.cometAt(comet);
        if (c == null || !isPeople(people) || !isDay(day)) return VOID;
        for (int k = c.first; k <= c.last; k++) {
            if (sight.seenOn(c, people, k, 0, day)) return k;
        }
        return VOID;
    }

    // ---- texts, reigns

    public int feed(int n, int v) {
        if (!within(n, 1, 4)) return BAD;
        if (!tape.hasRoomFor(n)) return FULL;
        return tape.takeBytes(n, v);
    }

    public int text(int use) {
        Text text = textOf(use);
        if (text == null) return BAD;
        int fault = tape.becomeText(text);
        if (fault != Tape.NO_FAULT) return -100 - fault;
        story.forgetWeights();
        if (use == 0) sight.forgetSights();
        if (use >= 10) book.settleWordsOf(use - 10);
        return 1;
    }

    public int reign(int reign, int day, int other) {
        if (!within(reign, 0, REIGNS - 1) || !isDay(day) || !within(other, -1, LAST_DAY)) return BAD;
        story.forgetWeights();
        book.tellReign(reign, day, other);
        return 1;
    }

    public int watch(int people, int from, int to) {
        if (!isPeople(people) || !isDay(from) || !isDay(to) || from > to) return BAD;
        if (story.watches >= MOST_WATCHES) return FULL;
        story.forgetWeights();
        return story.addWatch(people, from, to);
    }

    // ---- words

    public int word(int pkr, int slack, int more) {
        int people = pkr / 10000;
        int kind = pkr / 100 % 100;
        int reign = pkr % 100;
        if (pkr < 0 || !isPeople(people) || kind >= KINDS || !within(slack, 0, MOST_SLACK)) return BAD;
        if (reign != UNTOLD_REIGN && !book.isToldReign(reign)) return BAD;
        if (!book.canBear(kind, more)) return BAD;
        if (book.words >= MOST_WORDS) return FULL;
        Word w = new Word(book.words, kind, people, reign == UNTOLD_REIGN ? NO_REIGN : reign, slack);
        w.dateIt(book.year, book.month, book.day);
        story.forgetWeights();
        return book.addWord(w, more);
    }

    public int date(int y, int m, int d) {
        if (!isDatePart(y) || !isDatePart(m) || !isDatePart(d)) return BAD;
        book.year = y;
        book.month = m;
        book.day = d;
        return 1;
    }

    public int words(int people, int page, int i, int n) {
        if (!isPeople(people) || !pages.isPage(page) || !within(n, 1, 12)) return BAD;
        if (pages.isEmpty(page)) return 0;
        if (!pages.holdsShorts(page)) return OTHER_KIND;
        if (i < 0) return 0;
        int came = 0;
        for (int at = i; came < n && pages.hasFiveFrom(page, at); at += 5) {
            if (!addWordFromRow(people, page, at)) break;
            came++;
        }
        return came;
    }

    public int ofWord(int word, int what) {
        Word w = book.wordAt(word);
        if (w == null) return BAD;
        switch (what) {
            case 0: return w.kind;
            case 1: return w.people;
            case 2: return w.year;
            case 3: return w.month;
            case 4: return w.day;
            case 5: return w.reign;
            case 6: return w.slack;
            case 7: return w.more;
            case 8: return w.rootWord().number;
            case 9: return w.rootWord().spans;
            default: return BAD;
        }
    }

    public int span(int word, int i, int what) {
        Word w = book.wordAt(word);
        if (w == null || !within(what, 0, 1)) return VOID;
        Word root = w.rootWord();
        if (!within(i, 0, root.spans - 1)) return VOID;
        int from = root.spanFrom(i);
        int to = root.spanTo(i);
        if (from > to) return VOID;
        return what == 0 ? from : to;
    }

    public int fits(int word, int comet, int k) {
        Word w = book.wordAt(word);
        Comet c = sky.cometAt(comet);
        if (w == null || c == null || !isReturnNumber(k)) return BAD;
        if (!c.hasReturn(k)) return NOT;
        int day = sight.fitDay(w, c, k, 0, -FAR, FAR);
        return day == NO_DAY ? NOT : day;
    }

    public int perhaps(int word, int comet, int k) {
        Word w = book.wordAt(word);
        Comet c = sky.cometAt(comet);
        if (w == null || c == null || !isReturnNumber(k)) return VOID;
        return c.hasReturn(k) ? story.leastMove(w, c, k) : NOT;
    }

    public int whose(int word, int comet) {
        Word w = book.wordAt(word);
        Comet c = sky.cometAt(comet);
        if (w == null || c == null) return VOID;
        for (int k = c.first; k <= c.last; k++) {
            if (sight.fitDay(w, c, k, 0, -FAR, FAR) != NO_DAY) return k;
        }
        return VOID;
    }

    public int evening(int word, int other) {
        Word w = book.wordAt(word);
        Word o = book.wordAt(other);
        if (w == null || o == null) return BAD;
        int day = book.firstCommonDay(w.rootWord(), o.rootWord());
        return day == NO_DAY ? NOT : day;
    }

    public int behind(int word, int other) {
        Word w = book.wordAt(word);
        Word o = book.wordAt(other);
        if (w == null || o == null || word == other) return BAD;
        for (int i = 0; i < sky.comets; i++) {
            Comet c = sky.cometAt(i);
            if (c == null) continue;
            for (int k = c.first; k <= c.last; k++) {
                if (sight.goneBehind(w, o, c, k) || sight.goneBehind(o, w, c, k)) return 1000 * i + 100 + k;
            }
        }
        return NOT;
    }

    public int once(int people) {
        if (!within(people, -1, PEOPLES - 1)) return BAD;
        return book.countRoots(people);
    }

    // ---- stories

    public int judge(int comets) {
        if (!within(comets, 0, (1 << sky.comets) - 1)) return VOID;
        for (int i = 0; i < sky.comets; i++) {
            if ((comets >> i & 1) == 1) story.weighComet(i);
        }
        return story.worthOf(comets);
    }

    public int best(int what) {
        if (!within(what, 0, 1)) return VOID;
        int weighed = Math.min(sky.comets, COMETS_WEIGHED_BY_BEST);
        for (int i = 0; i < weighed; i++) {
            story.weighComet(i);
        }
        int set = story.bestSetOf(weighed);
        return what == 0 ? set : story.worthOf(set);
    }

    public int observed(int day, int degree) {
        if (!isDay(day) || !within(degree, 0, CIRCLE - 1)) return BAD;
        if (evenings.count >= Evenings.MOST) return FULL;
        return evenings.addEvening(day, degree);
    }

    public int paths(int day, int slack, int what) {
        if (!isDay(day) || !within(slack, 0, 90) || !within(what, 0, 4)) return BAD;
        if (evenings.count < 2) return STATE;
        return evenings.findPaths(day, slack, what);
    }

    public int forget() {
        int were = evenings.count;
        evenings.count = 0;
        return were;
    }

    public int alike(int comet, int other, int x) {
        Comet c = sky.cometAt(comet);
        Comet o = sky.cometAt(other);
        if (c == null || o == null || !within(x, 0, HALF_CIRCLE)) return BAD;
        return c.way == o.way && isNear(c.node - o.node, c.reach - o.reach, x) ? 1 : 0;
    }

    public int chance(int x, int seed, int n) {
        if (!within(x, 0, HALF_CIRCLE) || !within(n, 1, 200)) return BAD;
        return thousandthsNear(x, seed, n);
    }

    public int foretold(int comet, int k, int set, int what) {
        Comet c = sky.cometAt(comet);
        if (c == null || !within(k, 0, MOST_RETURNS) || !within(what, 0, 1)) return VOID;
        if (!within(set, 0, sky.allGreats())) return VOID;
        int told = sky.foretell(c, k, set);
        if (told == VOID || what == 0) return told;
        return c.hasReturn(k) ? c.passOf(k) - told : VOID;
    }

    public int right(int people, int comet, int what) {
        Comet c = sky.cometAt(comet);
        if (c == null || !isPeople(people) || !within(what, 0, 1)) return VOID;
        story.forgetMoves();
        for (int i = 0; i < book.words; i++) {
            Word w = book.wordAt(i);
            if (w != null && w.people == people && w.kind != COPIED) story.countMovesOf(w, c);
        }
        return story.bestMove(what);
    }

    public int broke(int comet, int k) {
        Comet c = sky.cometAt(comet);
        if (c == null || !isReturnNumber(k)) return BAD;
        if (!c.hasReturn(k)) return NOT;
        if (c.brokeOn != VOID) return STATE;
        if (sky.comets + 2 > MOST_COMETS) return FULL;
        return sky.breakComet(comet, k);
    }

    public int kin(int comet) {
        if (sky.cometAt(comet) == null) return BAD;
        return sky.kinOf(comet);
    }

    public int next(int comet, int other, int what) {
        Comet c = sky.cometAt(comet);
        Comet o = sky.cometAt(other);
        if (c == null || o == null || comet == other || !within(what, 0, 1)) return BAD;
        int found = story.nextToLookFor(c, o);
        if (found == NO_DAY) return NOT;
        return what == 0 ? found / PEOPLES : found % PEOPLES;
    }

    // ---- acts, pages

    public int act(int word, int act, int x) {
        acts.clear();
        Word w = book.wordAt(word);
        if (w == null || !within(act, 0, Acts.ACTS - 1)) return 0;
        return acts.perform(w, act, x);
    }

    public int trace(int i) {
        return acts.bodyAt(i);
    }

    public int keep(int page, int word) {
        if (!pages.isPage(page)) return BAD;
        if (word == -1) {
            pages.keepNothing(page);
            return 1;
        }
        if (book.wordAt(word) == null) return BAD;
        pages.keepWord(page, word);
        return 1;
    }

    public int row(int page, int sort, int n) {
        if (!pages.isPage(page) || !within(sort, 0, Pages.SORTS - 1) || n > Pages.MOST_ELEMENTS) return BAD;
        if (n < 0) return BELOW_ZERO;
        pages.keepRow(page, sort, n);
        return 1;
    }

    public int put(int page, int i, long v) {
        int refusal = pages.refusalOf(page, i);
        if (refusal != 0) return refusal;
        pages.write(page, i, v);
        return 1;
    }

    public long element(int page, int i) {
        if (pages.refusalOf(page, i) != 0) return Long.MIN_VALUE;
        return pages.read(page, i);
    }

    public int shift(int page, int i, int other, int j, int n) {
        if (!pages.isPage(page) || !pages.isPage(other)) return BAD;
        if (pages.isEmpty(page) || pages.isEmpty(other)) return NOTHING_THERE;
        if (!pages.areRowsOfOneSort(page, other)) return OTHER_KIND;
        if (!pages.hasPlaces(page, i, n) || !pages.hasPlaces(other, j, n)) return NO_SUCH_PLACE;
        pages.copy(page, i, other, j, n);
        return n;
    }

    public int taken(int page, int k) {
        if (!pages.isPage(page) || !within(k, 0, KINDS - 1)) return BAD;
        if (pages.isEmpty(page)) return NOTHING_THERE;
        if (pages.isRow(page)) return OTHER_KIND;
        Word w = book.wordAt(pages.wordOn(page));
        if (w == null || !isUnder(w.kind, k)) return OTHER_KIND;
        return w.kind;
    }

    public int count(int what) {
        switch (what) {
            case 0: return sky.greats;
            case 1: return sky.comets;
            case 2: return book.words;
            case 3: return tape.size;
            case 4: return story.watches;
            case 5: return evenings.count;
            case 6: return acts.ran;
            default: return BAD;
        }
    }

    // ---- what the calls share

    private Text textOf(int use) {
        if (use == 0) return sight.seenText;
        if (use == 1) return sight.tailText;
        return book.reckoningOf(use - 10);
    }

    private boolean addWordFromRow(int people, int page, int at) {
        int y = (int) pages.read(page, at);
        int m = (int) pages.read(page, at + 1);
        int d = (int) pages.read(page, at + 2);
        int slack = (int) pages.read(page, at + 3);
        int kind = (int) pages.read(page, at + 4);
        if (!isDatePart(y) || !isDatePart(m) || !isDatePart(d) || !within(slack, 0, MOST_SLACK)) return false;
        if (kind != WORD && kind != MOVED && kind != NEW_STAR) return false;
        if (book.words >= MOST_WORDS) return false;
        Word w = new Word(book.words, kind, people, NO_REIGN, slack);
        w.dateIt(y, m, d);
        story.forgetWeights();
        book.addWord(w, -1);
        return true;
    }

    private static int thousandthsNear(int x, int seed, int n) {
        if (n <= 0) return 0;
        int z = seed;
        int near = 0;
        for (int i = 0; i < n; i++) {
            z = drawn(z);
            int node = drawnNode(z);
            z = drawn(z);
            int reach = drawnReach(z);
            z = drawn(z);
            int otherNode = drawnNode(z);
            z = drawn(z);
            if (isNear(node - otherNode, reach - drawnReach(z), x)) near++;
        }
        return 1000 * near / n;
    }

    private static int drawn(int z) {
        return z * 1103515245 + 12345;
    }

    private static int drawnNode(int z) {
        return (z >>> 8) % CIRCLE;
    }

    private static int drawnReach(int z) {
        return 5 + (z >>> 8) % 95;
    }

    private static boolean isNear(int nodes, int reaches, int x) {
        return apart(nodes, 0) <= x && Math.abs(reaches) <= x;
    }

    private static boolean within(int v, int least, int most) {
        return v >= least && v <= most;
    }

    private static boolean isDay(int day) {
        return within(day, 0, LAST_DAY);
    }

    private static boolean isPeople(int people) {
        return within(people, 0, PEOPLES - 1);
    }

    private static boolean isDatePart(int v) {
        return within(v, 0, MOST_DATE);
    }

    private static boolean isReturnNumber(int k) {
        return within(k, -MOST_RETURNS, MOST_RETURNS);
    }

    private static boolean isFar(int e) {
        return !within(e, -FAR, FAR);
    }

    private static int apart(int degree, int other) {
        int size = Math.abs(degree - other) % CIRCLE;
        return Math.min(size, CIRCLE - size);
    }

    private static int kindAbove(int kind) {
        return within(kind, 0, KINDS - 1) ? ABOVE[kind] : -1;
    }

    private static boolean isUnder(int kind, int k) {
        int at = kind;
        for (int steps = 0; steps < KINDS && at >= 0; steps++) {
            if (at == k) return true;
            at = kindAbove(at);
        }
        return false;
    }

    /** How far a path has turned by e days from its pass. */
    private static int turned(int way, int e, int reach) {
        int divisor = Math.abs(e) + reach;
        return divisor == 0 ? 0 : way * 90 * e / divisor;
    }

    private static final class Comet {
        final int pass, span, node, reach, way, bright, parent;
        int brokeOn = VOID;
        int first = 0, last = 0;
        private final int[] passes = new int[RETURNS];
        private final int[] degrees = new int[WINDOW];
        // What Sight found out of this comet, and as of which of its versions; made when first wanted.
        long[] sights = null;
        final int[] sightsVersions = new int[PEOPLES];

        Comet(int pass, int span, int node, int reach, int way, int bright, int parent) {
            this.pass = pass;
            this.span = span;
            this.node = node;
            this.reach = reach;
            this.way = way;
            this.bright = bright;
            this.parent = parent;
            for (int i = 0; i < WINDOW; i++) {
                degrees[i] = (node + turned(way, i - FAR, reach) + CIRCLE) % CIRCLE;
            }
        }

        boolean hasReturn(int k) {
            return k >= first && k <= last;
        }

        int passOf(int k) {
            return isReturnNumber(k) ? passes[k + MOST_RETURNS] : pass;
        }

        void setPass(int k, int day) {
            if (isReturnNumber(k)) passes[k + MOST_RETURNS] = day;
        }

        int degreeAt(int e) {
            return e >= -FAR && e <= FAR ? degrees[e + FAR] : node;
        }

        int distanceAt(int e) {
            return reach + Math.abs(e);
        }

        int apartOfSun(int e, int day) {
            return apart(degreeAt(e), day % CIRCLE);
        }

        boolean isWest(int e, int day) {
            return (degreeAt(e) - day % CIRCLE + CIRCLE) % CIRCLE < HALF_CIRCLE;
        }
    }

    /** The great bodies, the comets and the returns that both give. */
    private static final class Sky {
        private final int[] rounds = new int[MOST_GREATS];
        private final int[] pulls = new int[MOST_GREATS];
        int greats = 0;
        private final Comet[] all = new Comet[MOST_COMETS];
        int comets = 0;

        int addGreat(int round, int pull) {
            if (greats >= MOST_GREATS) return FULL;
            rounds[greats] = round;
            pulls[greats] = pull;
            greats++;
            for (int i = 0; i < comets; i++) {
                reckonReturns(all[i]);
            }
            return greats - 1;
        }

        int addComet(Comet c) {
            if (comets >= MOST_COMETS) return FULL;
            all[comets] = c;
            comets++;
            reckonReturns(c);
            return comets - 1;
        }

        Comet cometAt(int i) {
            return i >= 0 && i < comets ? all[i] : null;
        }

        int allGreats() {
            return (1 << greats) - 1;
        }

        int wideOf(int k) {
            int sum = 0;
            for (int i = 0; i < greats; i++) {
                sum += pulls[i];
            }
            return Math.abs(k) * sum;
        }

        /** The pass of return k (0 or more) by the great bodies of a set; VOID: no such return. */
        int foretell(Comet c, int k, int set) {
            int day = c.pass;
            for (int i = 0; i < k; i++) {
                day += c.span + pulledFrom(day, set);
                if (!isDay(day)) return VOID;
            }
            return day;
        }

        int breakComet(int i, int k) {
            Comet c = cometAt(i);
            if (c == null) return BAD;
            c.brokeOn = k;
            int bright = Math.max(c.bright - 1, 0);
            int day = c.passOf(k);
            int one = (c.node + 1) % CIRCLE;
            int other = (c.node + CIRCLE - 1) % CIRCLE;
            int number = addComet(new Comet(day, c.span + 30, one, c.reach, c.way, bright, i));
            addComet(new Comet(day, c.span - 30, other, c.reach, c.way, bright, i));
            return number;
        }

        int kinOf(int i) {
            int first = firstOf(i);
            int kin = 0;
            for (int j = 0; j < comets; j++) {
                if (firstOf(j) == first) kin |= 1 << j;
            }
            return kin;
        }

        private int firstOf(int i) {
            int at = i;
            for (int steps = 0; steps < comets; steps++) {
                Comet c = cometAt(at);
                if (c == null || c.parent < 0) return at;
                at = c.parent;
            }
            return at;
        }

        private void reckonReturns(Comet c) {
            if (c == null) return;
            c.setPass(0, c.pass);
            c.first = 0;
            c.last = 0;
            for (int k = 1; k <= MOST_RETURNS; k++) {
                int before = c.passOf(k - 1);
                int day = before + c.span + pulledFrom(before, allGreats());
                if (!isDay(day)) break;
                c.setPass(k, day);
                c.last = k;
            }
            for (int k = -1; k >= -MOST_RETURNS; k--) {
                int day = passAhead(c.passOf(k + 1), c.span);
                if (!isDay(day)) break;
                c.setPass(k, day);
                c.first = k;
            }
        }

        // A day whose next pass is T lies at T less the span less some sum of pulls, each for or
        // against: so these days alone are tried.
        private int passAhead(int day, int span) {
            int greatest = NO_DAY;
            for (int signs = 0; signs <= allGreats(); signs++) {
                int ahead = day - span - signedPulls(signs);
                if (ahead < 0 || ahead >= day || ahead <= greatest) continue;
                if (ahead + span + pulledFrom(ahead, allGreats()) == day) greatest = ahead;
            }
            return greatest == NO_DAY ? day - span : greatest;
        }

        private int signedPulls(int signs) {
            int sum = 0;
            for (int i = 0; i < greats; i++) {
                sum += (signs >> i & 1) == 1 ? pulls[i] : -pulls[i];
            }
            return sum;
        }

        private int pulledFrom(int day, int set) {
            int sum = 0;
            for (int i = 0; i < greats; i++) {
                int round = rounds[i];
                if ((set >> i & 1) == 0 || round == 0) continue;
                sum += 2 * (day % round) < round ? pulls[i] : -pulls[i];
            }
            return sum;
        }
    }

    /** A text made ready: steps on a stack, each operand ahead of what joins it. */
    private static final class Text {
        static final int NUMBER = 0, NAME = 1, NO = 2, MINUS = 3, TIMES = 4, OVER = 5, REST = 6, PLUS = 7,
                LESS = 8, BELOW = 9, LIKE = 10, ABOVE_IT = 11, BOTH = 12, EITHER = 13, WHEN = 14, END = 15;
        static final int MOST_STEPS = 128, DEEPEST = 64;
        static final String NAMES = "sqbgedpymr";
        static final int S = 0, Q = 1, B = 2, G = 3, E = 4, D = 5, P = 6, Y = 7, M = 8, R = 9, NAME_COUNT = 10;

        private final int[] steps = new int[MOST_STEPS];
        private int length = 0;

        boolean isTold() {
            return length > 0;
        }

        void takeSteps(int[] from, int n) {
            length = Math.min(n, Math.min(from.length, MOST_STEPS));
            System.arraycopy(from, 0, steps, 0, length);
        }

        static int step(int kind, int value) {
            return value << 4 | kind;
        }

        int valueWith(int[] names, int[] stack) {
            int top = -1;
            for (int at = 0; at < length; at++) {
                int kind = steps[at] & 15;
                int value = steps[at] >> 4;
                if (kind == NUMBER || kind == NAME) {
                    if (top + 1 >= stack.length || value < 0) return 0;
                    top++;
                    stack[top] = kind == NUMBER ? value : value < names.length ? names[value] : 0;
                    continue;
                }
                if (top < 0) return 0;
                int last = stack[top];
                switch (kind) {
                    case NO:
                        stack[top] = last == 0 ? 1 : 0;
                        break;
                    case MINUS:
                        stack[top] = -last;
                        break;
                    case WHEN:
                        top--;
                        if (last == 0) at = Math.max(at, value - 1);
                        break;
                    case END:
                        return last;
                    default:
                        if (top < 1) return 0;
                        top--;
                        stack[top] = joined(kind, stack[top], last);
                }
            }
            return 0;
        }

        private static int joined(int kind, int a, int b) {
            switch (kind) {
                case TIMES: return a * b;
                case OVER: return b == 0 ? 0 : a / b;
                case REST: return b == 0 ? 0 : a % b;
                case PLUS: return a + b;
                case LESS: return a - b;
                case BELOW: return a < b ? 1 : 0;
                case LIKE: return a == b ? 1 : 0;
                case ABOVE_IT: return a > b ? 1 : 0;
                case BOTH: return a != 0 && b != 0 ? 1 : 0;
                case EITHER: return a != 0 || b != 0 ? 1 : 0;
                default: return 0;
            }
        }
    }

    /** The tape, and how it is read as a text. */
    private static final class Tape {
        static final int MOST = 120, NO_FAULT = -1, MOST_OPEN = 6, MOST_DIGITS = 6;

        private final int[] bytes = new int[MOST];
        int size = 0;
        private int at = 0;
        private int fault = NO_FAULT;
        private final int[] steps = new int[Text.MOST_STEPS];
        private int length = 0;

        boolean hasRoomFor(int n) {
            return size + n <= MOST;
        }

        int takeBytes(int n, int v) {
            for (int i = 0; i < n && size < MOST; i++) {
                bytes[size] = v >>> 8 * i & 255;
                size++;
            }
            return size;
        }

        /** The fault; a tape with one leaves the text as it was. The tape is empty then. */
        int becomeText(Text text) {
            at = 0;
            length = 0;
            fault = NO_FAULT;
            readLine();
            for (int i = 0; i < size && isGoingOn(';'); i++) {
                readLine();
            }
            if (fault == NO_FAULT && at < size) fault = at;
            if (fault == NO_FAULT) text.takeSteps(steps, length);
            size = 0;
            return fault;
        }

        private int here() {
            return at >= 0 && at < size ? bytes[at] : -1;
        }

        private boolean take(char sign) {
            if (here() != sign) return false;
            at++;
            return true;
        }

        private boolean isGoingOn(char sign) {
            return fault == NO_FAULT && take(sign);
        }

        private void add(int kind, int value) {
            if (length >= steps.length) return;
            steps[length] = Text.step(kind, value);
            length++;
        }

        private void failHere() {
            if (fault == NO_FAULT) fault = at;
        }

        private void readLine() {
            readEither(0);
            if (!isGoingOn('?')) {
                add(Text.END, 0);
                return;
            }
            int when = length;
            add(Text.WHEN, 0);
            readEither(0);
            add(Text.END, 0);
            if (when < steps.length) steps[when] = Text.step(Text.WHEN, length);
        }

        private void readEither(int open) {
            readBoth(open);
            for (int i = 0; i < size && isGoingOn('|'); i++) {
                readBoth(open);
                add(Text.EITHER, 0);
            }
        }

        private void readBoth(int open) {
            readCompared(open);
            for (int i = 0; i < size && isGoingOn('&'); i++) {
                readCompared(open);
                add(Text.BOTH, 0);
            }
        }

        private void readCompared(int open) {
            readSum(open);
            int kind = isGoingOn('<') ? Text.BELOW
                    : isGoingOn('=') ? Text.LIKE
                    : isGoingOn('>') ? Text.ABOVE_IT : Text.END;
            if (kind == Text.END) return;
            readSum(open);
            add(kind, 0);
        }

        private void readSum(int open) {
            readProduct(open);
            for (int i = 0; i < size; i++) {
                int kind = isGoingOn('+') ? Text.PLUS : isGoingOn('-') ? Text.LESS : Text.END;
                if (kind == Text.END) return;
                readProduct(open);
                add(kind, 0);
            }
        }

        private void readProduct(int open) {
            readOperand(open);
            for (int i = 0; i < size; i++) {
                int kind = isGoingOn('*') ? Text.TIMES
                        : isGoingOn('/') ? Text.OVER
                        : isGoingOn('%') ? Text.REST : Text.END;
                if (kind == Text.END) return;
                readOperand(open);
                add(kind, 0);
            }
        }

        private void readOperand(int open) {
            int sign = here();
            if (within(sign, '0', '9')) {
                readNumber();
            } else if (within(sign, 'a', 'z') && Text.NAMES.indexOf((char) sign) >= 0) {
                add(Text.NAME, Text.NAMES.indexOf((char) sign));
                at++;
            } else if (open >= MOST_OPEN) {
                failHere();
            } else if (take('(')) {
                readEither(open + 1);
                if (!isGoingOn(')')) failHere();
            } else if (take('!')) {
                readOperand(open + 1);
                add(Text.NO, 0);
            } else if (take('-')) {
                readOperand(open + 1);
                add(Text.MINUS, 0);
            } else {
                failHere();
            }
        }

        private void readNumber() {
            int number = 0;
            for (int i = 0; i < MOST_DIGITS && within(here(), '0', '9'); i++) {
                number = number * 10 + here() - '0';
                at++;
            }
            add(Text.NUMBER, number);
        }
    }

    private static final class Word {
        final int number, kind, people, reign, slack;
        int year = 0, month = 0, day = 0;
        int more = -1;
        private Word copiedRoot = null;
        int spans = 0;
        private int middle = 0, otherMiddle = 0;

        Word(int number, int kind, int people, int reign, int slack) {
            this.number = number;
            this.kind = kind;
            this.people = people;
            this.reign = reign;
            this.slack = slack;
        }

        void dateIt(int y, int m, int d) {
            year = y;
            month = m;
            day = d;
        }

        void copyFrom(Word root) {
            copiedRoot = root;
        }

        Word rootWord() {
            return copiedRoot == null ? this : copiedRoot;
        }

        void settle(int count, int first, int other) {
            spans = count;
            middle = first;
            otherMiddle = other;
        }

        int spanFrom(int i) {
            return movedFrom(i, 0);
        }

        int spanTo(int i) {
            return movedTo(i, 0);
        }

        /** The first day of a span that is moved, then cut: above movedTo, if no day is left. */
        int movedFrom(int i, int move) {
            return Math.max((i == 0 ? middle : otherMiddle) - slack + move, 0);
        }

        int movedTo(int i, int move) {
            return Math.min((i == 0 ? middle : otherMiddle) + slack + move, LAST_DAY);
        }
    }

    /** The words, and the reigns and reckonings that give them their spans. */
    private static final class Book {
        private static final int FARTHEST = 2000000;

        private final Word[] all = new Word[MOST_WORDS];
        int words = 0;
        int year = 0, month = 0, day = 0;
        private final int[] begins = new int[REIGNS];
        private final int[] beginsAgain = new int[REIGNS];
        private final Text[] reckonings = new Text[PEOPLES];
        private final int[] names = new int[Text.NAME_COUNT];
        private final int[] stack = new int[Text.DEEPEST];
        private final boolean[] counted = new boolean[MOST_WORDS];

        Book() {
            Arrays.fill(begins, NO_DAY);
            Arrays.fill(beginsAgain, NO_DAY);
            for (int i = 0; i < PEOPLES; i++) {
                reckonings[i] = new Text();
            }
        }

        Text reckoningOf(int people) {
            return isPeople(people) ? reckonings[people] : null;
        }

        Word wordAt(int i) {
            return i >= 0 && i < words ? all[i] : null;
        }

        boolean isToldReign(int reign) {
            return within(reign, 0, REIGNS - 1) && begins[reign] != NO_DAY;
        }

        boolean canBear(int kind, int more) {
            switch (kind) {
                case PLACED:
                case MEASURED: return within(more, 0, LODGES - 1);
                case SEEN:
                case TWICE: return within(more, 0, 1);
                case COPIED: return wordAt(more) != null;
                default: return true;
            }
        }

        int addWord(Word w, int more) {
            if (words >= MOST_WORDS) return FULL;
            if (w.kind != WORD && w.kind != MOVED && w.kind != NEW_STAR) w.more = more;
            if (w.kind == COPIED) {
                Word source = wordAt(more);
                if (source == null) return BAD;
                w.copyFrom(source.rootWord());
            }
            all[words] = w;
            words++;
            settleSpans(w);
            return words - 1;
        }

        void tellReign(int reign, int first, int other) {
            if (!within(reign, 0, REIGNS - 1)) return;
            begins[reign] = first;
            beginsAgain[reign] = other;
            for (int i = 0; i < words; i++) {
                Word w = wordAt(i);
                if (w != null && w.reign == reign) settleSpans(w);
            }
        }

        void settleWordsOf(int people) {
            for (int i = 0; i < words; i++) {
                Word w = wordAt(i);
                if (w != null && w.people == people) settleSpans(w);
            }
        }

        private void settleSpans(Word w) {
            if (w.kind == COPIED) return;
            if (!isToldReign(w.reign)) {
                w.settle(1, reckonedDay(w, 0), 0);
                return;
            }
            int first = reckonedDay(w, begins[w.reign]);
            int again = beginsAgain[w.reign];
            if (again == NO_DAY) w.settle(1, first, 0);
            else w.settle(2, first, reckonedDay(w, again));
        }

        private int reckonedDay(Word w, int reignDay) {
            Text text = reckoningOf(w.people);
            int reckoned = 360 * w.year + 30 * w.month + w.day;
            if (text != null && text.isTold()) {
                names[Text.Y] = w.year;
                names[Text.M] = w.month;
                names[Text.D] = w.day;
                names[Text.R] = reignDay;
                reckoned = text.valueWith(names, stack);
            }
            return Math.max(-FARTHEST, Math.min(FARTHEST, reckoned));
        }

        int firstCommonDay(Word one, Word other) {
            int least = NO_DAY;
            for (int i = 0; i < one.spans; i++) {
                for (int j = 0; j < other.spans; j++) {
                    int from = Math.max(one.spanFrom(i), other.spanFrom(j));
                    int to = Math.min(one.spanTo(i), other.spanTo(j));
                    if (from <= to && (least == NO_DAY || from < least)) least = from;
                }
            }
            return least;
        }

        int countRoots(int people) {
            for (int i = 0; i < MOST_WORDS; i++) {
                counted[i] = false;
            }
            int roots = 0;
            for (int i = 0; i < words; i++) {
                Word w = wordAt(i);
                if (w == null || people >= 0 && w.people != people) continue;
                int root = w.rootWord().number;
                if (!within(root, 0, MOST_WORDS - 1) || counted[root]) continue;
                counted[root] = true;
                roots++;
            }
            return roots;
        }
    }

    /** Who could see what, and which returns words fit. */
    private static final class Sight {
        private static final int LEAST_APART = 15, NEAR_A_LODGE = 7, NEAR_THE_PASS = 10, MOST_TAIL = 99;
        // Four longs tell which days of a return are known, four more on which of them it was seen.
        private static final int LONGS = 4, ROW = 2 * LONGS;

        final Text seenText = new Text();
        final Text tailText = new Text();
        private final int[] names = new int[Text.NAME_COUNT];
        private final int[] stack = new int[Text.DEEPEST];
        private int version = 1;

        void forgetSights() {
            version++;
        }

        int tailOf(Comet c, int people, int e, int day) {
            return tailText.isTold() ? Math.max(0, Math.min(MOST_TAIL, toldBy(tailText, c, people, e, day))) : 0;
        }

        private int toldBy(Text text, Comet c, int people, int e, int day) {
            int degree = c.degreeAt(e);
            names[Text.S] = apart(degree, day % CIRCLE);
            names[Text.Q] = c.distanceAt(e);
            names[Text.B] = c.bright;
            names[Text.G] = degree;
            names[Text.E] = e;
            names[Text.D] = day % 30;
            names[Text.P] = people;
            return text.valueWith(names, stack);
        }

        /** Whether a people can see a return, moved by some days, on a day. */
        boolean seenOn(Comet c, int people, int k, int move, int day) {
            int e = day - c.passOf(k) - move;
            if (isFar(e) || c.apartOfSun(e, day) < LEAST_APART) return false;
            if (!seenText.isTold()) return true;
            long[] known = sightsOf(c, people);
            int at = (people * RETURNS + k + MOST_RETURNS) * ROW + (e + FAR) / 64;
            // A moved return is looked at once; what is seen of one that is not may be asked often.
            if (move != 0 || at < 0 || at + LONGS >= known.length) return toldBy(seenText, c, people, e, day) != 0;
            long bit = 1L << (e + FAR & 63);
            if ((known[at] & bit) == 0) {
                known[at] |= bit;
                if (toldBy(seenText, c, people, e, day) != 0) known[at + LONGS] |= bit;
            }
            return (known[at + LONGS] & bit) != 0;
        }

        private long[] sightsOf(Comet c, int people) {
            if (c.sights == null) c.sights = new long[PEOPLES * RETURNS * ROW];
            long[] known = c.sights;
            if (isPeople(people) && c.sightsVersions[people] != version) {
                c.sightsVersions[people] = version;
                int end = Math.min((people + 1) * RETURNS * ROW, known.length);
                for (int i = people * RETURNS * ROW; i < end; i++) {
                    known[i] = 0;
                }
            }
            return known;
        }

        /** The least day, from..to days off its pass, on which a word fits a return moved by some days. */
        int fitDay(Word w, Comet c, int k, int move, int from, int to) {
            int pass = c.passOf(k) + move;
            Word root = w.rootWord();
            // TWICE wants a day that is not as told, too, which may lie outside of from..to.
            boolean isTwice = w.kind == TWICE;
            boolean isEnough = !isTwice;
            int least = NO_DAY;
            for (int i = 0; i < root.spans; i++) {
                int start = Math.max(root.spanFrom(i), pass + (isTwice ? -FAR : from));
                int end = Math.min(root.spanTo(i), pass + (isTwice ? FAR : to));
                for (int day = start; day <= end; day++) {
                    if (isEnough && least != NO_DAY && day >= least) break;
                    if (!seenOn(c, w.people, k, move, day)) continue;
                    if (!isAsSaid(w, c, day - pass, day)) isEnough = true;
                    else if (within(day - pass, from, to) && (least == NO_DAY || day < least)) least = day;
                }
            }
            return isEnough ? least : NO_DAY;
        }

        boolean goneBehind(Word before, Word after, Comet c, int k) {
            return fitDay(before, c, k, 0, -FAR, -1) != NO_DAY && fitDay(after, c, k, 0, 1, FAR) != NO_DAY;
        }

        /** Whether what a word says beside its day holds on one, e days from the pass. */
        boolean isAsSaid(Word w, Comet c, int e, int day) {
            switch (w.kind) {
                case PLACED: return offLodge(c.degreeAt(e), w.more) <= NEAR_A_LODGE;
                case MEASURED: return offLodge(c.degreeAt(e), w.more) == 0;
                case SEEN:
                case TWICE: return c.isWest(e, day) == (w.more == 1);
                case MOVED: return Math.abs(e) <= NEAR_THE_PASS;
                case NEW_STAR: return tailOf(c, w.people, e, day) == 0;
                default: return true;
            }
        }

        private static int offLodge(int degree, int lodge) {
            int first = lodge * LODGE_WIDTH;
            int on = (degree - first + CIRCLE) % CIRCLE;
            if (on < LODGE_WIDTH) return 0;
            return Math.min(on - LODGE_WIDTH + 1, CIRCLE - on);
        }
    }

    /** What words and watches tell of comets together. */
    private static final class Story {
        private static final int SURE_DAYS = 5, MOST_MOVE = 400, MOVE_STEP = 10, MOVES = 81;
        private static final int FOR_A_ROOT = 3, FOR_A_COMET = 5, LONGS = 3, UNWEIGHED = -1;

        private final Sky sky;
        private final Book book;
        private final Sight sight;
        private final int[] watchers = new int[MOST_WATCHES];
        private final int[] watchedFrom = new int[MOST_WATCHES];
        private final int[] watchedTo = new int[MOST_WATCHES];
        int watches = 0;
        // By comets, once weighed: which roots fit one, as bits, and how many returns are missing. They
        // hold until a great body, a text, a reign, a watch or a word comes.
        private final long[] rootsOf = new long[MOST_COMETS * LONGS];
        private final int[] missingOf = new int[MOST_COMETS];
        // How many days of a return, up to each, are as told, and how many not so.
        private final int[] asTold = new int[WINDOW + 1];
        private final int[] notSo = new int[WINDOW + 1];
        private final boolean[] fitsMoved = new boolean[MOVES];
        private final int[] fittingMoved = new int[MOVES];
        private final int[] near = new int[RETURNS];
        private int nearCount = 0;

        Story(Sky sky, Book book, Sight sight) {
            this.sky = sky;
            this.book = book;
            this.sight = sight;
            Arrays.fill(missingOf, UNWEIGHED);
        }

        int addWatch(int people, int from, int to) {
            if (watches >= MOST_WATCHES) return FULL;
            watchers[watches] = people;
            watchedFrom[watches] = from;
            watchedTo[watches] = to;
            watches++;
            return watches;
        }

        // ---- which of a word's returns, if they are moved

        /**
         * The least move by which a word fits a return: tried from 0 outward, the one below 0 first. With
         * a pass that is no day there is no return that it could fit.
         */
        int leastMove(Word w, Comet c, int k) {
            int wide = sky.wideOf(k);
            int step = 1 + wide / 20;
            if (step <= 0) return NOT;
            int below = wide / step * step - wide;
            int above = below + step;
            for (int i = 0; i <= 2 * wide / step; i++) {
                boolean isBelow = above > wide || below >= -wide && -below <= above;
                int move = isBelow ? below : above;
                if (isDay(c.passOf(k) + move) && sight.fitDay(w, c, k, move, -FAR, FAR) != NO_DAY) return move;
                if (isBelow) below -= step;
                else above += step;
            }
            return NOT;
        }

        // ---- the worth of sets

        void forgetWeights() {
            Arrays.fill(rootsOf, 0L);
            Arrays.fill(missingOf, UNWEIGHED);
        }

        void weighComet(int i) {
            Comet c = sky.cometAt(i);
            if (c == null || !within(i, 0, MOST_COMETS - 1) || missingOf[i] != UNWEIGHED) return;
            missingOf[i] = 0;
            for (int k = c.first; k <= c.last; k++) {
                boolean isMissing = isSurelyWatched(c, k);
                for (int j = 0; j < book.words; j++) {
                    Word w = book.wordAt(j);
                    if (w == null || !isMissing && !isNewRoot(w, i)) continue;
                    if (sight.fitDay(w, c, k, 0, -FAR, FAR) == NO_DAY) continue;
                    isMissing = false;
                    if (w.kind != COPIED) rootsOf[i * LONGS + (j >> 6)] |= 1L << (j & 63);
                }
                if (isMissing) missingOf[i]++;
            }
        }

        private boolean isNewRoot(Word w, int i) {
            int at = i * LONGS + (w.number >> 6);
            return w.kind != COPIED && within(at, 0, rootsOf.length - 1) && (rootsOf[at] >> (w.number & 63) & 1) == 0;
        }

        private boolean isSurelyWatched(Comet c, int k) {
            int pass = c.passOf(k);
            for (int i = 0; i < watches; i++) {
                int end = Math.min(watchedTo[i], pass + FAR);
                int days = 0;
                for (int day = Math.max(watchedFrom[i], pass - FAR); day <= end; day++) {
                    if (sight.seenOn(c, watchers[i], k, 0, day)) days++;
                    if (days >= SURE_DAYS) return true;
                }
            }
            return false;
        }

        /** The worth of a set of comets that are all weighed. */
        int worthOf(int set) {
            int worth = -FOR_A_COMET * Integer.bitCount(set);
            long roots = 0, roots1 = 0, roots2 = 0;
            for (int i = 0; i < MOST_COMETS; i++) {
                if ((set >> i & 1) == 0) continue;
                worth -= missingOf[i];
                roots |= rootsOf[i * LONGS];
                roots1 |= rootsOf[i * LONGS + 1];
                roots2 |= rootsOf[i * LONGS + 2];
            }
            return worth + FOR_A_ROOT * (Long.bitCount(roots) + Long.bitCount(roots1) + Long.bitCount(roots2));
        }

        int bestSetOf(int comets) {
            int best = 0;
            int bestWorth = 0;
            for (int set = 1; set < 1 << comets; set++) {
                int worth = worthOf(set);
                boolean isFewer = Integer.bitCount(set) < Integer.bitCount(best);
                if (worth > bestWorth || worth == bestWorth && isFewer) {
                    best = set;
                    bestWorth = worth;
                }
            }
            return best;
        }

        // ---- years put right

        void forgetMoves() {
            Arrays.fill(fittingMoved, 0);
        }

        /** The move by which most of the counted words fit (what 0), or how many then (1). */
        int bestMove(int what) {
            int best = 0;
            for (int i = 1; i < MOVES; i++) {
                int more = fittingMoved[i] - fittingMoved[best];
                if (more > 0 || more == 0 && Math.abs(moveOf(i)) < Math.abs(moveOf(best))) best = i;
            }
            return what == 0 ? moveOf(best) : fittingMoved[best];
        }

        private static int moveOf(int i) {
            return i * MOVE_STEP - MOST_MOVE;
        }

        /** Counts a word for each move by which it fits some return. */
        void countMovesOf(Word w, Comet c) {
            for (int i = 0; i < MOVES; i++) {
                fitsMoved[i] = false;
            }
            for (int k = c.first; k <= c.last; k++) {
                if (!countDays(w, c, k)) continue;
                for (int i = 0; i < MOVES; i++) {
                    if (!fitsMoved[i] && isFitMoved(w, c.passOf(k), moveOf(i))) fitsMoved[i] = true;
                }
            }
            for (int i = 0; i < MOVES; i++) {
                if (fitsMoved[i]) fittingMoved[i]++;
            }
        }

        /** Counts the days of a return that some move could bring a word to; false: there is none. */
        private boolean countDays(Word w, Comet c, int k) {
            int pass = c.passOf(k);
            int from = LAST_DAY;
            int to = 0;
            for (int i = 0; i < w.spans; i++) {
                from = Math.min(from, w.movedFrom(i, -MOST_MOVE));
                to = Math.max(to, w.movedTo(i, MOST_MOVE));
            }
            from = Math.max(from, pass - FAR);
            to = Math.min(to, pass + FAR);
            if (from > to) return false;
            for (int i = 0; i < WINDOW; i++) {
                int day = pass - FAR + i;
                boolean isSeen = within(day, from, to) && sight.seenOn(c, w.people, k, 0, day);
                boolean is = isSeen && sight.isAsSaid(w, c, day - pass, day);
                asTold[i + 1] = asTold[i] + (is ? 1 : 0);
                notSo[i + 1] = notSo[i] + (isSeen && !is ? 1 : 0);
            }
            return true;
        }

        private boolean isFitMoved(Word w, int pass, int move) {
            return hasCounted(asTold, w, pass, move) && (w.kind != TWICE || hasCounted(notSo, w, pass, move));
        }

        private boolean hasCounted(int[] counts, Word w, int pass, int move) {
            for (int i = 0; i < w.spans; i++) {
                int from = Math.max(w.movedFrom(i, move) - pass + FAR, 0);
                int to = Math.min(w.movedTo(i, move) - pass + FAR, WINDOW - 1);
                if (from <= to && from < counts.length && to >= -1 && counts[to + 1] > counts[from]) return true;
            }
            return false;
        }

        // ---- what to look for

        /** PEOPLES times the day, and the people, to look for one and not the other; NO_DAY: none. */
        int nextToLookFor(Comet one, Comet other) {
            int found = NO_DAY;
            for (int k = one.first; k <= one.last; k++) {
                int pass = one.passOf(k);
                gatherNear(other, pass);
                for (int i = 0; i < watches; i++) {
                    int from = Math.max(watchedFrom[i], pass - FAR);
                    int to = Math.min(watchedTo[i], pass + FAR);
                    if (found != NO_DAY) to = Math.min(to, found / PEOPLES);
                    int day = firstOfOneAlone(one, other, k, watchers[i], from, to);
                    if (day == NO_DAY) continue;
                    int candidate = day * PEOPLES + watchers[i];
                    if (found == NO_DAY || candidate < found) found = candidate;
                }
            }
            return found;
        }

        // The returns of the other one that can matter about a pass: far fewer than all.
        private void gatherNear(Comet other, int pass) {
            nearCount = 0;
            for (int k = other.first; k <= other.last; k++) {
                if (Math.abs(other.passOf(k) - pass) > 2 * FAR || nearCount >= near.length) continue;
                near[nearCount] = k;
                nearCount++;
            }
        }

        private int firstOfOneAlone(Comet one, Comet other, int k, int people, int from, int to) {
            for (int day = from; day <= to; day++) {
                if (sight.seenOn(one, people, k, 0, day) && !isSeenNear(other, people, day)) return day;
            }
            return NO_DAY;
        }

        private boolean isSeenNear(Comet other, int people, int day) {
            for (int i = 0; i < nearCount; i++) {
                if (sight.seenOn(other, people, near[i], 0, day)) return true;
            }
            return false;
        }
    }

    /** Evenings that were told, and the paths that let them. */
    private static final class Evenings {
        static final int MOST = 5;
        private static final int ABOUT = 60, NO_NODE = -1;

        private final int[] days = new int[MOST];
        private final int[] degrees = new int[MOST];
        int count = 0;

        int addEvening(int day, int degree) {
            if (count >= MOST) return FULL;
            days[count] = day;
            degrees[count] = degree;
            count++;
            return count;
        }

        int findPaths(int day, int slack, int what) {
            int found = 0;
            int latest = Math.min(day + ABOUT, LAST_DAY);
            for (int pass = Math.max(day - ABOUT, 0); pass <= latest; pass++) {
                for (int reach = 5; reach <= 95; reach += 10) {
                    for (int way = 1; way >= -1; way -= 2) {
                        int node = nodeOf(pass, reach, way, slack);
                        if (node == NO_NODE) continue;
                        if (what == 1) return pass;
                        if (what == 2) return reach;
                        if (what == 3) return way;
                        if (what == 4) return node;
                        found++;
                    }
                }
            }
            return what == 0 ? found : NOT;
        }

        /** The node of a path that lets all evenings; NO_NODE: it does not. */
        private int nodeOf(int pass, int reach, int way, int slack) {
            int node = (degrees[0] - turned(way, days[0] - pass, reach) + 2 * CIRCLE) % CIRCLE;
            for (int i = 0; i < count; i++) {
                int e = days[i] - pass;
                if (isFar(e)) return NO_NODE;
                int degree = (node + turned(way, e, reach) + CIRCLE) % CIRCLE;
                if (i > 0 && apart(degree, degrees[i]) > slack) return NO_NODE;
            }
            return node;
        }
    }

    /** The acts of words: which body answers, by kinds, and the trace of those that ran. */
    private static final class Acts {
        static final int ACTS = 4, DATES = 0, PLACES = 1, FITS = 2, TELLS = 3;
        private static final int KEPT = 24, DEEPEST = 24;
        // By kinds, the bodies of the four acts; 0: the kind above has it.
        private static final int[] BODIES = {
            1, 10, 11, 2,
            0, 20, 0, 0,
            0, 0, 30, 0,
            40, 0, 0, 0,
            0, 0, 50, 0,
            0, 0, 0, 60,
            0, 70, 0, 0,
            80, 0, 0, 81,
        };

        private final int[] began = new int[KEPT];
        int ran = 0;

        void clear() {
            ran = 0;
        }

        int bodyAt(int i) {
            return i >= 0 && i < ran && i < KEPT ? began[i] : BAD;
        }

        int perform(Word w, int act, int x) {
            return call(w, w.kind, act, x, 0);
        }

        private int call(Word w, int kind, int act, int x, int depth) {
            if (depth > DEEPEST) return 0;
            int at = kind;
            for (int steps = 0; steps < KINDS && within(at, 0, KINDS - 1); steps++) {
                int body = BODIES[at * ACTS + act];
                if (body != 0) return runBody(w, body, x, depth + 1);
                at = kindAbove(at);
            }
            return 0;
        }

        private int runBody(Word w, int body, int x, int depth) {
            if (ran < KEPT) began[ran] = body;
            ran++;
            int own = w.kind;
            switch (body) {
                case 1: return x + w.number;
                case 2: return call(w, own, PLACES, x, depth) + call(w, own, FITS, 1, depth);
                case 10: return call(w, own, DATES, x, depth) * 2;
                case 11: return x ^ w.number;
                case 20: return call(w, kindAbove(PLACED), PLACES, x, depth) + w.more;
                case 30: return call(w, kindAbove(SEEN), FITS, x, depth) * 3;
                case 40: return call(w, kindAbove(COPIED), DATES, x, depth) - 1;
                case 50: return -call(w, kindAbove(MOVED), FITS, x, depth);
                case 60: return call(w, kindAbove(NEW_STAR), TELLS, x, depth) ^ 7;
                case 70: return call(w, kindAbove(MEASURED), PLACES, x, depth) - call(w, own, FITS, 2, depth);
                case 80: return call(w, kindAbove(TWICE), DATES, x + 1, depth);
                case 81: return call(w, kindAbove(TWICE), TELLS, x, depth) * 2;
                default: return 0;
            }
        }
    }

    /** Pages that hold nothing, a word or a row. */
    private static final class Pages {
        static final int PAGES = 6, MOST_ELEMENTS = 60, SORTS = 5;
        private static final int BYTES = 0, SHORTS = 1, INTS = 2, BOOLEANS = 4;
        private static final int NOTHING = 0, A_WORD = 1, A_ROW = 2;

        private final int[] holds = new int[PAGES];
        private final int[] wordOf = new int[PAGES];
        private final int[] sortOf = new int[PAGES];
        private final int[] sizeOf = new int[PAGES];
        private final long[][] rows = new long[PAGES][MOST_ELEMENTS];

        boolean isPage(int page) {
            return within(page, 0, PAGES - 1);
        }

        boolean isEmpty(int page) {
            return !isPage(page) || holds[page] == NOTHING;
        }

        boolean isRow(int page) {
            return isPage(page) && holds[page] == A_ROW;
        }

        boolean holdsShorts(int page) {
            return isRow(page) && sortOf[page] == SHORTS;
        }

        boolean areRowsOfOneSort(int page, int other) {
            return isRow(page) && isRow(other) && sortOf[page] == sortOf[other];
        }

        boolean hasPlaces(int page, int i, int n) {
            return isRow(page) && i >= 0 && n >= 0 && i <= sizeOf[page] && n <= sizeOf[page] - i;
        }

        boolean hasFiveFrom(int page, int i) {
            return hasPlaces(page, i, 5);
        }

        int wordOn(int page) {
            return isPage(page) && holds[page] == A_WORD ? wordOf[page] : -1;
        }

        void keepNothing(int page) {
            if (isPage(page)) holds[page] = NOTHING;
        }

        void keepWord(int page, int word) {
            if (!isPage(page)) return;
            holds[page] = A_WORD;
            wordOf[page] = word;
        }

        void keepRow(int page, int sort, int n) {
            if (!isPage(page)) return;
            holds[page] = A_ROW;
            sortOf[page] = sort;
            sizeOf[page] = n;
            Arrays.fill(rows[page], 0L);
        }

        /** Why element i of a page's row is not to be had; 0: it is. */
        int refusalOf(int page, int i) {
            if (!isPage(page)) return BAD;
            if (isEmpty(page)) return NOTHING_THERE;
            if (!isRow(page)) return OTHER_KIND;
            return hasPlaces(page, i, 1) ? 0 : NO_SUCH_PLACE;
        }

        long read(int page, int i) {
            return refusalOf(page, i) == 0 ? rows[page][i] : 0L;
        }

        void write(int page, int i, long v) {
            if (refusalOf(page, i) == 0) rows[page][i] = narrowed(sortOf[page], v);
        }

        void copy(int page, int i, int other, int j, int n) {
            if (hasPlaces(page, i, n) && hasPlaces(other, j, n)) System.arraycopy(rows[page], i, rows[other], j, n);
        }

        private static long narrowed(int sort, long v) {
            switch (sort) {
                case BYTES: return (byte) v;
                case SHORTS: return (short) v;
                case INTS: return (int) v;
                case BOOLEANS: return v != 0 ? 1 : 0;
                default: return v;
            }
        }
    }
}
