import java.util.Random;

/** Runs of drawn calls, each answered by SameStar and by PlainStar alike. */
public final class AgainstPlainTest {
    // An object is good for 512 calls; one draw makes at most some forty.
    private static final int RUNS = 160, DRAWS = 400, MOST_CALLS = 512 - 40;
    private static int wrong = 0;

    private final int run;
    private final Random random;
    private final SameStar star = new SameStar();
    private final PlainStar plain = new PlainStar();
    private int nextY = 0, nextM = 0, nextD = 0;
    private int calls = 0;

    private AgainstPlainTest(int run) {
        this.run = run;
        random = new Random(run);
    }

    public static void main(String[] args) {
        int runs = args.length > 0 ? Integer.parseInt(args[0]) : RUNS;
        for (int run = 1; run <= runs; run++) {
            AgainstPlainTest test = new AgainstPlainTest(run);
            for (int i = 0; i < DRAWS && test.calls < MOST_CALLS; i++) test.drawCall(i);
        }
        System.out.println(wrong == 0 ? "all answers are as the plain one's" : wrong + " answers are not as the plain one's");
        if (wrong != 0) System.exit(1);
    }

    private void due(String call, long got, long want) {
        calls++;
        if (got == want) return;
        wrong++;
        if (wrong < 40) System.out.println("run " + run + ": " + call + " answered " + got + ", due is " + want);
    }

    private int draw(int least, int most) {
        return least + random.nextInt(most - least + 1);
    }

    private void drawCall(int i) {
        int kind = i < 60 ? draw(0, 11) : draw(0, 40);
        switch (kind) {
            case 0: if (draw(0, 4) == 0) great(); break;
            case 1: comet(); break;
            case 2: if (draw(0, 2) == 0) text(); break;
            case 3: reign(); break;
            case 4: if (draw(0, 3) == 0) watch(); break;
            case 5: case 6: case 7: case 8: word(); break;
            case 9: observe(); break;
            case 10: if (i > 40) broke(); break;
            case 11: faulty(); break;
            default: ask(kind);
        }
    }

    private void great() {
        int round = draw(100, draw(0, 1) == 0 ? 900 : 20000);
        int pull = draw(0, 60);
        if (plain.greats.size() >= 4) {
            due("great", star.great(round, pull), SameStar.FULL);
            return;
        }
        due("great", star.great(round, pull), plain.greats.size());
        plain.greats.add(new int[] {round, pull});
    }

    private void comet() {
        int pass = draw(0, 9) == 0 ? draw(0, 1) * 999999 : draw(0, draw(0, 5) == 0 ? 400 : 20000);
        int span = draw(0, 3) == 0 ? draw(200, 300) : draw(200, 6000);
        int node = draw(0, 359);
        int reach = draw(5, 99);
        int way = draw(0, 1) * 2 - 1;
        int bright = draw(0, 9);
        int most = run % 3 + 2;
        if (plain.comets.size() >= most) return;
        int path = (way < 0 ? 100000 : 0) + 100 * node + reach;
        due("comet", star.comet(pass, span, path, bright), plain.comets.size());
        plain.addComet(pass, span, node, reach, way, bright);
    }

    private void feed(String tape) {
        for (int i = 0; i < tape.length(); i += 4) {
            int n = Math.min(4, tape.length() - i);
            int v = 0;
            for (int j = 0; j < n; j++) v |= tape.charAt(i + j) << 8 * j;
            due("feed", star.feed(n, v), i + n);
        }
    }

    private void text() {
        int use = draw(0, 3);
        if (use > 1) use = 10 + draw(0, 3);
        if (use > 1 && draw(0, 1) == 0) return;
        String tape;
        if (use < 2 && draw(0, 1) == 0) tape = new String[] {"s>30&q<90", "q<60|b>5", "e>0", "d%3", "p=1|e<9;0", "s/20-2"}[draw(0, 5)];
        else if (draw(0, 2) == 0) tape = new String[] {"r+360*y+30*m+d", "355*y+m*30+d+r/3", "m>12?-1;360*y+30*m+d", "r"}[draw(0, 3)];
        else tape = line();
        while (draw(0, 3) == 0) tape += ";" + line();
        if (tape.length() > 120) return;
        feed(tape);
        due("text " + tape, star.text(use), 1);
        plain.texts[use] = tape;
    }

    private String line() {
        return draw(0, 2) == 0 ? expression(3) + "?" + expression(3) : expression(3);
    }

    private String expression(int depth) {
        if (depth == 0) return operand(0);
        int kind = draw(0, 5);
        if (kind == 0) return expression(depth - 1) + "|" + expression(depth - 1);
        if (kind == 1) return "(" + expression(depth - 1) + ")" + "+*-/%<=>&|".charAt(draw(0, 9)) + operand(depth);
        if (kind == 2) return operand(depth) + "<=>".charAt(draw(0, 2)) + operand(depth);
        if (kind == 3) return operand(depth) + "+-".charAt(draw(0, 1)) + operand(depth) + "*/%".charAt(draw(0, 2)) + operand(depth);
        return operand(depth);
    }

    private String operand(int depth) {
        int kind = draw(0, 6);
        if (kind == 0 && depth > 0) return "!" + operand(depth - 1);
        if (kind == 1 && depth > 0) return "-" + operand(depth - 1);
        if (kind < 4) return "" + draw(0, new int[] {9, 99, 999999}[draw(0, 2)]);
        return "" + "sqbgedpymr".charAt(draw(0, 9));
    }

    // What is wrong with a tape, by trying what goes on; then the tape is empty and the text as it was.
    private void faulty() {
        StringBuilder tape = new StringBuilder(draw(0, 3) == 0 ? "" : line());
        if (tape.length() > 20) tape.setLength(20);
        for (int i = draw(1, 3); i > 0; i--) {
            tape.insert(draw(0, tape.length()), "sx1(((!!--??;;)+<=&*|0000 ~".charAt(draw(0, 26)));
        }
        feed(tape.toString());
        int fault = PlainStar.fault(tape.toString());
        due("text " + tape, star.text(1), fault < 0 ? 1 : -100 - fault);
        if (fault < 0) plain.texts[1] = tape.toString();
        due("count(3)", star.count(3), 0);
    }

    private void reign() {
        int reign = draw(0, 4);
        int day = draw(0, 5000);
        int other = draw(0, 1) == 0 ? -1 : draw(0, 20000);
        due("reign", star.reign(reign, day, other), 1);
        plain.reigns[reign] = other < 0 ? new int[] {day} : new int[] {day, other};
    }

    private void watch() {
        int people = draw(0, 3);
        int from = draw(0, 20000);
        int to = from + draw(0, 5) * draw(0, 1500);
        if (plain.watches.size() >= 10) {
            due("watch", star.watch(people, from, to), SameStar.FULL);
            return;
        }
        plain.watches.add(new int[] {people, from, to});
        due("watch", star.watch(people, from, to), plain.watches.size());
    }

    // Words stand about the returns of comets, lest none fit.
    private void word() {
        if (plain.words.size() > 14) return;
        if (draw(0, 2) > 0) {
            int day = draw(0, 20000);
            if (!plain.comets.isEmpty() && draw(0, 5) > 0) {
                PlainStar.Comet c = plain.comets.get(draw(0, plain.comets.size() - 1));
                Integer pass = plain.passOf(c, draw(-3, 3));
                if (pass != null) day = Math.max(0, pass + draw(-60, 60));
            }
            nextY = day / 360;
            nextM = day % 360 / 30;
            nextD = day % 30;
            due("date", star.date(nextY, nextM, nextD), 1);
        }
        PlainStar.Word w = new PlainStar.Word();
        w.number = plain.words.size();
        w.kind = draw(0, 7);
        w.people = draw(0, 3);
        w.y = nextY;
        w.m = nextM;
        w.d = nextD;
        w.reign = draw(0, 3) == 0 ? draw(0, 4) : -1;
        w.slack = draw(0, 2) == 0 ? draw(0, 400) : draw(0, 60);
        w.more = w.kind == 3 ? draw(0, Math.max(0, w.number - 1)) : w.kind == 2 || w.kind == 7 ? draw(0, 1) : draw(0, 23);
        boolean isBad = w.reign >= 0 && plain.reigns[w.reign] == null || w.kind == 3 && w.number == 0;
        int pkr = 10000 * w.people + 100 * w.kind + (w.reign < 0 ? 99 : w.reign);
        due("word " + pkr, star.word(pkr, w.slack, w.more), isBad ? SameStar.BAD : w.number);
        if (!isBad) plain.words.add(w);
    }

    private void observe() {
        if (draw(0, 3) == 0) {
            due("forget", star.forget(), plain.evenings.size());
            plain.evenings.clear();
        }
        int day = aboutFirstEvening(draw(0, 3) == 0 ? draw(0, 1) * 999999 : draw(100, 3000), 60);
        int degree = draw(0, 359);
        if (plain.evenings.size() >= 5) return;
        plain.evenings.add(new int[] {day, degree});
        due("observed", star.observed(day, degree), plain.evenings.size());
    }

    /** A day about the first evening; the one told, if there is no evening. */
    private int aboutFirstEvening(int without, int about) {
        int day = plain.evenings.isEmpty() ? without : plain.evenings.get(0)[0] + draw(-about, about);
        return Math.max(0, Math.min(999999, day));
    }

    private void broke() {
        if (plain.comets.isEmpty() || plain.comets.size() > 6) return;
        int comet = draw(0, plain.comets.size() - 1);
        int k = draw(-2, 4);
        PlainStar.Comet c = plain.comets.get(comet);
        Integer pass = plain.passOf(c, k);
        int due = pass == null ? SameStar.NOT : c.broke != SameStar.VOID ? SameStar.STATE : plain.comets.size();
        due("broke", star.broke(comet, k), due);
        if (due < 0) return;
        c.broke = k;
        for (int turn = 1; turn >= -1; turn -= 2) {
            int bright = Math.max(0, c.bright - 1);
            int made = plain.addComet(pass, c.span + 30 * turn, (c.node + turn + 360) % 360, c.reach, c.way, bright);
            plain.comets.get(made).parent = comet;
        }
    }

    private void ask(int kind) {
        if (plain.comets.isEmpty()) return;
        int comet = draw(0, plain.comets.size() - 1);
        int other = draw(0, plain.comets.size() - 1);
        int k = draw(0, 2) == 0 ? draw(-60, 60) : draw(-4, 4);
        if (kind < 28) askOfComets(kind, comet, other, k);
        else if (!plain.words.isEmpty()) askOfWords(kind, comet, draw(0, plain.words.size() - 1), draw(0, plain.words.size() - 1), k);
    }

    private void askOfComets(int kind, int comet, int other, int k) {
        PlainStar.Comet c = plain.comets.get(comet);
        PlainStar.Comet o = plain.comets.get(other);
        Integer pass = plain.passOf(c, k);
        int people = draw(0, 3);
        int what = draw(0, 1);
        String of = " of " + comet + ", " + k;
        switch (kind) {
            case 12: case 13: {
                due("pass" + of, star.pass(comet, k, 0), pass == null ? SameStar.NOT : pass);
                due("pass" + of, star.pass(comet, k, 1), pass == null ? SameStar.NOT : plain.wide(k));
                break;
            }
            case 14: case 15: {
                int day = pass == null ? 5 : Math.max(0, Math.min(999999, pass + draw(-125, 125)));
                boolean not = pass == null || Math.abs(day - pass) > 120;
                int e = not ? 0 : day - pass;
                due("stands 0" + of, star.stands(comet, k, day, 0), not ? SameStar.NOT : PlainStar.degree(c, e));
                due("stands 1" + of, star.stands(comet, k, day, 1), not ? SameStar.NOT : c.reach + Math.abs(e));
                due("stands 2" + of, star.stands(comet, k, day, 2), not ? SameStar.NOT : PlainStar.apart(PlainStar.degree(c, e), day));
                due("stands 3" + of, star.stands(comet, k, day, 3), not ? SameStar.NOT : plain.tail(c, 0, pass, day));
                due("seen" + of, star.seen(comet, people, day), plain.seen(comet, people, day));
                break;
            }
            case 16: due("kin", star.kin(comet), plain.kin(comet)); break;
            case 17: {
                int set = draw(0, (1 << plain.greats.size()) - 1);
                due("foretold" + of, star.foretold(comet, Math.abs(k), set, what), plain.foretold(comet, Math.abs(k), set, what));
                break;
            }
            case 18: {
                int set = draw(0, (1 << plain.comets.size()) - 1);
                due("judge " + set, star.judge(set), plain.judge(set));
                break;
            }
            case 19: {
                if (draw(0, 7) > 0) break;
                int best = plain.best();
                due("best 0", star.best(0), best);
                due("best 1", star.best(1), plain.judge(best));
                break;
            }
            case 20: {
                int day = aboutFirstEvening(draw(100, 3000), 80);
                int slack = draw(0, 90);
                int of4 = draw(0, 4);
                due("paths", star.paths(day, slack, of4), plain.paths(day, slack, of4));
                break;
            }
            case 21: {
                int x = draw(0, 180);
                boolean is = c.way == o.way && PlainStar.apart(c.node, o.node) <= x && Math.abs(c.reach - o.reach) <= x;
                due("alike", star.alike(comet, other, x), is ? 1 : 0);
                break;
            }
            case 22: if (draw(0, 3) == 0) due("right", star.right(people, comet, what), plain.right(people, comet, what)); break;
            case 23: case 24: if (comet != other) due("next", star.next(comet, other, what), plain.next(comet, other, what)); break;
            case 25: {
                int[] is = {c.pass, c.span, c.node, c.reach, c.way, c.bright, c.parent, c.broke};
                int of8 = draw(0, 7);
                due("ofComet", star.ofComet(comet, of8), is[of8]);
                break;
            }
            default: break;
        }
    }

    private void askOfWords(int kind, int comet, int word, int other, int k) {
        PlainStar.Word w = plain.words.get(word);
        int whose = draw(0, 2) == 0 ? PlainStar.VOID : plain.whose(word, comet);
        if (whose != PlainStar.VOID) k = whose;
        String of = " of " + word + " (kind " + w.kind + "), " + comet + ", " + k;
        switch (kind) {
            case 28: case 29: {
                int i = draw(0, 1);
                java.util.List<int[]> spans = plain.spans(w, 0);
                int[] span = i < spans.size() ? spans.get(i) : new int[] {1, 0};
                boolean none = span[0] > span[1];
                due("span 0" + of, star.span(word, i, 0), none ? SameStar.VOID : span[0]);
                due("span 1" + of, star.span(word, i, 1), none ? SameStar.VOID : span[1]);
                due("ofWord 9" + of, star.ofWord(word, 9), spans.size());
                due("ofWord 8" + of, star.ofWord(word, 8), plain.root(w).number);
                break;
            }
            case 30: case 31: case 32: due("fits" + of, star.fits(word, comet, k), plain.fits(word, comet, k)); break;
            case 33: case 34: due("perhaps" + of, star.perhaps(word, comet, k), plain.perhaps(word, comet, k)); break;
            case 35: case 36: due("whose" + of, star.whose(word, comet), plain.whose(word, comet)); break;
            case 37: due("evening" + of, star.evening(word, other), plain.evening(word, other)); break;
            case 38: case 39: if (word != other) due("behind" + of, star.behind(word, other), plain.behind(word, other)); break;
            default: {
                int people = draw(-1, 3);
                due("once", star.once(people), plain.once(people));
            }
        }
    }
}
