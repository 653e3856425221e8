/** Promises 35, 36 and the last of 43: acts of words, whose bodies are told here as classes of Java. */
public final class ActTest {
    private static final int BAD = SameStar.BAD;
    private static final Dues DUES = new Dues("ActTest");

    public static void main(String[] args) {
        byClasses();
        traceOfTells();
        withoutTrace();
        DUES.end();
    }

    private static void due(String call, long got, long want) {
        DUES.due(call, got, want);
    }

    private static class Word {
        final int n, lodge;
        final StringBuilder trace = new StringBuilder();

        Word(int n, int lodge) {
            this.n = n;
            this.lodge = lodge;
        }

        void ran(int body) {
            trace.append(body).append(' ');
        }

        int dates(int x) {
            ran(1);
            return x + n;
        }

        int places(int x) {
            ran(10);
            return dates(x) * 2;
        }

        int fits(int x) {
            ran(11);
            return x ^ n;
        }

        int tells(int x) {
            ran(2);
            return places(x) + fits(1);
        }

        int act(int act, int x) {
            trace.setLength(0);
            return act == 0 ? dates(x) : act == 1 ? places(x) : act == 2 ? fits(x) : tells(x);
        }
    }

    private static class Placed extends Word {
        Placed(int n, int lodge) {
            super(n, lodge);
        }

        @Override
        int places(int x) {
            ran(20);
            return super.places(x) + lodge;
        }
    }

    private static class Seen extends Word {
        Seen(int n) {
            super(n, -1);
        }

        @Override
        int fits(int x) {
            ran(30);
            return super.fits(x) * 3;
        }
    }

    private static final class Copied extends Word {
        Copied(int n) {
            super(n, -1);
        }

        @Override
        int dates(int x) {
            ran(40);
            return super.dates(x) - 1;
        }
    }

    private static final class Moved extends Word {
        Moved(int n) {
            super(n, -1);
        }

        @Override
        int fits(int x) {
            ran(50);
            return -super.fits(x);
        }
    }

    private static final class NewStar extends Word {
        NewStar(int n) {
            super(n, -1);
        }

        @Override
        int tells(int x) {
            ran(60);
            return super.tells(x) ^ 7;
        }
    }

    private static final class Measured extends Placed {
        Measured(int n, int lodge) {
            super(n, lodge);
        }

        @Override
        int places(int x) {
            ran(70);
            return super.places(x) - fits(2);
        }
    }

    private static final class Twice extends Seen {
        Twice(int n) {
            super(n);
        }

        @Override
        int dates(int x) {
            ran(80);
            return super.dates(x + 1);
        }

        @Override
        int tells(int x) {
            ran(81);
            return super.tells(x) * 2;
        }
    }

    private static Word word(int kind, int n, int lodge) {
        switch (kind) {
            case 0: return new Word(n, lodge);
            case 1: return new Placed(n, lodge);
            case 2: return new Seen(n);
            case 3: return new Copied(n);
            case 4: return new Moved(n);
            case 5: return new NewStar(n);
            case 6: return new Measured(n, lodge);
            default: return new Twice(n);
        }
    }

    private static String traceOf(SameStar x) {
        StringBuilder trace = new StringBuilder();
        int ran = x.count(6);
        for (int i = 0; i < ran; i++) trace.append(x.trace(i)).append(' ');
        due("trace beyond the last", x.trace(ran), BAD);
        return trace.toString();
    }

    private static void byClasses() {
        int[] xs = {0, 1, 5, -7, 1000, Integer.MAX_VALUE, Integer.MIN_VALUE, 0x5bd1e995};
        for (int n = 0; n < 24; n++) {
            SameStar x = new SameStar();
            for (int i = 0; i < n; i++) x.word(99, 0, 0);
            int kind = n % 8;
            int more = kind == 2 || kind == 7 ? 1 : n < 8 ? 0 : n - 3;
            due("word " + n, x.word(100 * kind + 99, 0, more), n);
            Word word = word(kind, n, more);
            for (int act = 0; act < 4; act++) {
                for (int v : xs) {
                    String call = "act " + act + " of kind " + kind + " with " + v;
                    due(call, x.act(n, act, v), word.act(act, v));
                    due("trace of " + call, traceOf(x).equals(word.trace.toString()) ? 1 : 0, 1);
                }
            }
        }
    }

    private static void traceOfTells() {
        SameStar x = new SameStar();
        x.word(799, 0, 1);
        // 81, 2, places 10, dates 80, 1, fits 30, 11.
        due("tells of twice", x.act(0, 3, 5), ((5 + 1) * 2 + 1 * 3) * 2);
        int[] want = {81, 2, 10, 80, 1, 30, 11};
        for (int i = 0; i < want.length; i++) due("trace " + i, x.trace(i), want[i]);
        due("trace 7", x.trace(7), BAD);
        due("trace -1", x.trace(-1), BAD);
        due("trace 24", x.trace(24), BAD);
        due("count", x.count(6), 7);
        x.act(0, 2, 5);
        due("trace of the latest act alone", x.trace(0), 30);
        due("trace of the latest act alone", x.trace(2), BAD);
        due("count of the latest act", x.count(6), 2);
    }

    private static void withoutTrace() {
        int[][] bad = {{1, 0}, {-1, 0}, {0, 4}, {0, -1}};
        for (int[] b : bad) {
            SameStar x = new SameStar();
            x.word(99, 0, 0);
            x.act(0, 3, 1);
            due("act " + b[0] + ", " + b[1], x.act(b[0], b[1], 5), 0);
            due("no trace then", x.trace(0), BAD);
            due("no count then", x.count(6), 0);
        }
    }
}
