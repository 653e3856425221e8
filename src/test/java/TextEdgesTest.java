/** Terms 2 and promises 8 to 11: each sentence that names a boundary case. */
public final class TextEdgesTest {
    private static final int BAD = SameStar.BAD, FULL = SameStar.FULL, VOID = SameStar.VOID;
    private static final int LEAST = Integer.MIN_VALUE, MOST = Integer.MAX_VALUE;

    public static void main(String[] args) throws Exception {
        Edges.runAll(TextEdgesTest.class);
    }

    private static void due(String call, long got, long want) {
        Edges.due(call, got, want);
    }

    /** What a text gives as a tail, 10 days behind a pass on day 3600: at 135 degrees, the sun at 10. */
    private static void gives(String text, int want) {
        SameStar x = new SameStar();
        x.comet(3600, 1000, 9010, 5);
        due("text " + text, Dues.tell(x, 1, text), 1);
        due("what " + text + " gives", x.stands(0, 0, 3610, 3), want);
    }

    private static void fault(String tape, int place) {
        for (int use : new int[] {0, 1, 10, 18}) due("text " + use + " of " + tape, Dues.tell(new SameStar(), use, tape), -100 - place);
    }

    private static void noFault(String tape) {
        due("text of " + tape, Dues.tell(new SameStar(), 0, tape), 1);
    }

    // A number at the start and one more with each two bytes: 119 of them are a text.
    private static String sumOf(int bytes) {
        StringBuilder sum = new StringBuilder("1");
        while (sum.length() < bytes) sum.append(sum.length() % 2 == 1 ? '+' : '1');
        return sum.toString();
    }

    // ---- terms 2

    @Says("THE TAPE (at most 120 bytes)")
    static void mostBytes() {
        SameStar x = new SameStar();
        for (int i = 1; i <= 30; i++) due("feed to " + 4 * i, x.feed(4, 0x2b312b31), 4 * i);
        due("feed to 121", x.feed(1, '1'), FULL);
        due("feed to 124", x.feed(4, '1'), FULL);
        due("how many", x.count(3), 120);
        due("a text of 120 bytes that ends too early", x.text(1), -220);
        due("a text of 119 bytes", Dues.tell(x, 1, sumOf(119)), 1);
        due("a text of 120 bytes", Dues.tell(x, 1, "1" + sumOf(119)), 1);
        x.comet(3600, 1000, 9010, 5);
        due("what 120 bytes give", x.stands(0, 0, 3610, 3), 70);
    }

    @Says("1 TAIL (how long: 0 .. 99)")
    static void tails() {
        gives("0-1", 0);
        gives("0-999999", 0);
        gives("2048*1024*1024", 0);
        gives("0", 0);
        gives("1", 1);
        gives("98", 98);
        gives("99", 99);
        gives("100", 99);
        gives("2048*1024*1024-1", 99);
        SameStar x = Dues.opposite(36000, 40000);
        Dues.tell(x, 1, "0-1");
        due("a new star with a tail below 0", x.fits(Dues.add(x, 5, 0, 36000, 0, 0), 0, 0), 36000);
    }

    @Says("RECKONINGS: USE 10 and the PEOPLE (0 .. 8)")
    static void reckoningsOfPeoples() {
        SameStar x = new SameStar();
        for (int people = 0; people <= 8; people++) {
            due("text " + (10 + people), Dues.tell(x, 10 + people, "" + (100 + people)), 1);
            x.word(10000 * people + 99, 0, 0);
        }
        for (int people = 0; people <= 8; people++) due("the day of people " + people, x.span(people, 0, 0), 100 + people);
        x.feed(1, '1');
        due("text 9", x.text(9), BAD);
        due("text 19", x.text(19), BAD);
    }

    @Says("The one told last counts; without: SEEN 1, TAIL 0, a RECKONING 360 y + 30 m + d.")
    static void withoutTexts() {
        SameStar x = Dues.opposite(36000, 40000);
        x.date(99, 12, 31);
        x.word(99, 0, 0);
        due("seen without a text", x.seen(0, 0, 36000), 0);
        due("tail without a text", x.stands(0, 0, 36000, 3), 0);
        due("the day without a text", x.span(0, 0, 0), 99 * 360 + 12 * 30 + 31);
        Dues.tell(x, 0, "0");
        Dues.tell(x, 1, "7");
        Dues.tell(x, 10, "8");
        due("seen by a text", x.seen(0, 0, 36000), VOID);
        due("tail by a text", x.stands(0, 0, 36000, 3), 7);
        due("the day by a text", x.span(0, 0, 0), 8);
        Dues.tell(x, 0, "3");
        Dues.tell(x, 1, "9");
        Dues.tell(x, 10, "6");
        due("seen by the last text", x.seen(0, 0, 36000), 0);
        due("tail by the last text", x.stands(0, 0, 36000, 3), 9);
        due("the day by the last text", x.span(0, 0, 0), 6);
    }

    @Says("LINES, one or more, parted by ;")
    static void oneLineOrMore() {
        fault("", 0);
        fault(";", 0);
        fault(";1", 0);
        fault("1;", 2);
        fault("1;;1", 2);
        noFault("1;1");
        noFault("1" + ";1".repeat(59));
        fault("1" + ";1".repeat(59) + ";", 120);
    }

    @Says("LINE: E, or E ? E (what counts if the first is not 0)")
    static void lines() {
        gives("1?7;8", 7);
        gives("0-1?7;8", 7);
        gives("2048*1024*1024?7;8", 7);
        gives("0?7;8", 8);
        gives("1?0;8", 0);
        fault("?", 0);
        fault("?1", 0);
        fault("1?", 2);
        fault("1??1", 2);
        fault("1?2?3", 3);
        fault("(1?2)", 2);
        fault("1?;2", 2);
    }

    @Says("E = A { | A }. A = B { & B }.")
    static void eithersAndBoths() {
        gives("1|0&0", 1);
        gives("0&0|1", 1);
        gives("(1|0)&0", 0);
        gives("0|0|0|4", 1);
        gives("3&2&1&0", 0);
        fault("|1", 0);
        fault("&1", 0);
        fault("1|", 2);
        fault("1&", 2);
        fault("1||1", 2);
        fault("1&&1", 2);
        fault("1&|1", 2);
    }

    @Says("B = S, or S < S, S = S, S > S.")
    static void oneComparison() {
        gives("1+1<3", 1);
        gives("3<1+1", 0);
        gives("1<2&3>2", 1);
        gives("(1<2)=1", 1);
        for (String signs : new String[] {"<<", "<=", "<>", "=<", "==", "=>", "><", ">=", ">>"}) {
            fault("1" + signs.charAt(0) + "2" + signs.charAt(1) + "3", 3);
            fault("1" + signs + "2", 2);
        }
        for (String sign : new String[] {"<", "=", ">"}) {
            fault(sign + "1", 0);
            fault("1" + sign, 2);
        }
    }

    @Says("S = P { + P, - P }. P = O { * O, / O, % O }.")
    static void sumsAndProducts() {
        gives("2+3*4", 14);
        gives("9-3-2", 4);
        gives("9-3+2", 8);
        gives("50/7/2", 3);
        gives("50/7*2", 14);
        gives("2*50%7", 2);
        for (String sign : new String[] {"+", "*", "/", "%"}) {
            fault(sign + "1", 0);
            fault("1" + sign, 2);
            fault("1" + sign + "*1", 2);
            fault("1" + sign + "+1", 2);
        }
        fault("1-", 2);
        fault("1-+1", 2);
    }

    @Says("a number (1 to 6 digits)")
    static void digits() {
        gives("0", 0);
        gives("999999-999950", 49);
        gives("000042", 42);
        fault("1234567", 6);
        fault("0000000", 6);
        fault("1+1234567", 8);
        noFault("123456");
    }

    @Says("No blanks.")
    static void blanks() {
        fault(" ", 0);
        fault(" 1", 0);
        fault("1 ", 1);
        fault("1 +1", 1);
        fault("1+ 1", 2);
        fault("1\n", 1);
        fault("1\t;1", 1);
    }

    @Says("of SEEN, TAIL: s APART of it and the SUN, q DISTANCE, b BRIGHT, g DEGREE, e its e, d DAY % 30 (the moon), p the PEOPLE")
    static void namesOfTheSky() {
        gives("s-125+1", 1);
        gives("q", 20);
        gives("b", 5);
        gives("g-135+1", 1);
        gives("e", 10);
        gives("d", 10);
        gives("p+1", 1);
        SameStar x = new SameStar();
        x.comet(3600, 1000, 9010, 5);
        Dues.tell(x, 1, "s");
        due("apart of the sun on 3597: 70 and 357", x.stands(0, 0, 3597, 3), 73);
        due("apart of the sun on 3599: 82 and 359", x.stands(0, 0, 3599, 3), 83);
        due("apart of the sun on 3600: 90 and 0", x.stands(0, 0, 3600, 3), 90);
        Dues.tell(x, 1, "d");
        due("the moon on 3599", x.stands(0, 0, 3599, 3), 29);
        due("the moon on 3600", x.stands(0, 0, 3600, 3), 0);
        Dues.tell(x, 1, "0-e");
        due("e is below 0 ahead of the pass", x.stands(0, 0, 3590, 3), 10);
        Dues.tell(x, 1, "(e=0-120)*7+(e=120)*8");
        due("e 120 ahead", x.stands(0, 0, 3480, 3), 7);
        due("e 120 behind", x.stands(0, 0, 3720, 3), 8);
        Dues.tell(x, 0, "p=8");
        due("seen by people 8", x.seen(0, 8, 3610), 0);
        due("seen by people 7", x.seen(0, 7, 3610), VOID);
        Dues.tell(x, 0, "p=0");
        due("seen by people 0", x.seen(0, 0, 3610), 0);
    }

    private static int reckoned(String text, boolean hasReign) {
        SameStar x = new SameStar();
        x.reign(19, 5000, -1);
        due("text " + text, Dues.tell(x, 18, text), 1);
        x.date(9999, 0, 31);
        due("word", x.word(hasReign ? 80019 : 80099, 0, 0), 0);
        return x.span(0, 0, 0);
    }

    @Says("of RECKONINGS: y, m, d as in the word, r the DAY on which its REIGN began (0 without one)")
    static void namesOfReckonings() {
        due("y", reckoned("y", false), 9999);
        due("m", reckoned("m", false), 0);
        due("d", reckoned("d", false), 31);
        due("r", reckoned("r", true), 5000);
        due("r without a reign", reckoned("r", false), 0);
    }

    @Says("A NAME that is not of the USE is 0.")
    static void namesOfAnotherUse() {
        for (String name : new String[] {"y", "m", "r"}) gives(name + "+7", 7);
        for (String name : new String[] {"s", "q", "b", "g", "e", "p"}) due(name, reckoned(name + "+7", true), 7);
        for (String name : new String[] {"a", "c", "f", "h", "i", "j", "k", "l", "n", "o", "t", "u", "v", "w", "x", "z", "S", "Y"}) fault(name, 0);
    }

    @Says("At most 6 of ( ! - ahead of an O are open at once.")
    static void sixOpen() {
        for (String sign : new String[] {"(", "!", "-"}) {
            String close = sign.equals("(") ? ")" : "";
            noFault(sign.repeat(6) + "1" + close.repeat(6));
            fault(sign.repeat(7) + "1" + close.repeat(7), 6);
            fault(sign.repeat(6), 6);
            fault(sign.repeat(7), 6);
        }
        noFault("(!-(!-1))");
        fault("(!-(!-(1)))", 6);
        fault("(!-(!-!1))", 6);
        fault("(!-(!--1))", 6);
        noFault("(((((1)))))*((((((1))))))");
        noFault("!!!!!!1-!!!!!!1");
        noFault("((((((1-1))))))");
        fault("(((((-1+!1+(1+(1))))))))", 14);
        noFault("((((((1))))))?((((((1))))));((((((1))))))");
        gives("!!!!!!7", 1);
        gives("------7", 7);
        gives("((((((7))))))", 7);
    }

    @Says("Ints that wrap")
    static void wraps() {
        gives("2048*1024*1024<0", 1);
        gives("0-2048*1024*1024<0", 1);
        gives("-(2048*1024*1024)<0", 1);
        gives("2048*1024*1024-1>0", 1);
        gives("2048*1024*1024+2048*1024*1024+7", 7);
        gives("4096*1024*1024+7", 7);
        gives("2048*1024*1024/-1<0", 1);
        gives("2048*1024*1024%-1+7", 7);
    }

    @Says("/ and % toward 0, by 0 they give 0")
    static void quotients() {
        gives("20+-7/2", 17);
        gives("20+7/-2", 17);
        gives("20+-7%4", 17);
        gives("20+7%-4", 23);
        gives("20+7/0", 20);
        gives("20+7%0", 20);
        gives("20+0/0", 20);
        gives("20+7/(1-1)", 20);
    }

    @Says("| & < = > ! give 1, 0; all is worked out.")
    static void ones() {
        String[] one = {"5|0", "0|5", "5|7", "-5|0", "5&7", "-5&-7", "1<2", "-2<-1", "2=2", "2>1", "!0"};
        String[] none = {"0|0", "5&0", "0&5", "0&0", "2<1", "2<2", "1=2", "1>2", "2>2", "!5", "!-5"};
        for (String text : one) gives("20+(" + text + ")", 21);
        for (String text : none) gives("20+(" + text + ")", 20);
    }

    @Says("The first LINE without a first E, or whose first E is not 0, counts; none: 0.")
    static void firstLine() {
        gives("0?1;0?2;3;4", 3);
        gives("0?1;5?2;3", 2);
        gives("6;1?2", 6);
        gives("0;6", 0);
        gives("0?1", 0);
        gives("0?1;0?2;0?3", 0);
        SameStar x = Dues.opposite(36000, 40000);
        Dues.tell(x, 0, "0?1");
        due("seen by no line", x.seen(0, 0, 36000), VOID);
        Dues.tell(x, 10, "0?1");
        x.date(9, 9, 9);
        x.word(99, 0, 0);
        due("the day by no line", x.span(0, 0, 0), 0);
    }

    @Says("FAULT: the place (from 0) of the first byte with which no TEXT goes on; the length, if it ends too early.")
    static void faults() {
        fault("x", 0);
        fault("1x1", 1);
        fault("1+x)", 2);
        fault("(1", 2);
        fault("(1+", 3);
        fault("1)", 1);
        fault("()", 1);
        fault("(1))", 3);
        fault("(", 1);
        fault("1!", 1);
        fault("1(", 1);
        fault("s1", 1);
        fault("1s", 1);
        fault("sq", 1);
        fault("(1;1)", 2);
        fault("1+1+1+1+1+1+", 12);
        for (int v : new int[] {0, 10, 31, 32, 127, 128, 176, 185, 241, 255}) {
            SameStar x = new SameStar();
            x.feed(1, v);
            due("the byte " + v, x.text(0), -100);
            x.feed(2, '1' | v << 8);
            due("the byte " + v + " behind one", x.text(0), -101);
        }
    }

    @Says("it is not FAR, APART of it and the SUN is 15 or more, and SEEN gives not 0")
    static void canBeSeen() {
        SameStar x = Dues.opposite(36000, 40000);
        due("121 ahead", x.seen(0, 0, 35879), VOID);
        due("120 ahead", x.seen(0, 0, 35880), 0);
        due("120 behind", x.seen(0, 0, 36120), 0);
        due("121 behind", x.seen(0, 0, 36121), VOID);
        int[][] wants = {{0, VOID}, {14, VOID}, {15, 0}, {16, 0}, {344, 0}, {345, 0}, {346, VOID}, {359, VOID}};
        for (int[] w : wants) {
            SameStar y = new SameStar();
            y.comet(36000, 40000, 100 * w[0] + 99, 0);
            due("apart of " + w[0], y.seen(0, 0, 36000), w[1]);
        }
        Dues.tell(x, 0, "0");
        due("seen gives 0", x.seen(0, 0, 36000), VOID);
        Dues.tell(x, 0, "0-1");
        due("seen gives -1", x.seen(0, 0, 36000), 0);
    }

    // ---- promises

    @Says("n (1 .. 4) bytes come to THE TAPE, the lowest of v first: how many it has. BAD, FULL.")
    static void feed() {
        SameStar x = new SameStar();
        for (int n : new int[] {LEAST, -1, 0, 5, MOST}) due("feed " + n, x.feed(n, '1'), BAD);
        due("how many", x.count(3), 0);
        due("feed 1 of four", x.feed(1, 0x78787837), 1);
        due("feed 3 of four", x.feed(3, 0x78342b35), 4);
        due("feed 4 of four", x.feed(4, 0x312b312b), 8);
        due("text 75+4+1+1", x.text(1), 1);
        x.comet(3600, 1000, 9010, 5);
        due("what it gives", x.stands(0, 0, 3610, 3), 81);
        due("feed 4 of -1", x.feed(4, -1), 4);
        due("text of it", x.text(1), -100);
    }

    @Says("how many it has. BAD, FULL.")
    static void feedBadThenFull() {
        SameStar x = new SameStar();
        for (int i = 0; i < 29; i++) x.feed(4, 0x2b312b31);
        x.feed(2, 0x2b31);
        due("feed to 121", x.feed(3, 0x313131), FULL);
        due("how many", x.count(3), 118);
        due("feed to 120", x.feed(2, 0x3131), 120);
        due("a bad one where none has room", x.feed(0, 0), BAD);
        due("a bad one where none has room", x.feed(5, 0), BAD);
        due("a good one where none has room", x.feed(1, 0), FULL);
        due("text", x.text(1), 1);
        x.comet(3600, 1000, 9010, 5);
        due("what it gives", x.stands(0, 0, 3610, 3), 59 + 11);
    }

    @Says("THE TAPE becomes the TEXT of a USE (0, 1, 10 .. 18): 1; -100 less its FAULT; THE TAPE is empty then. BAD (it stays).")
    static void text() {
        SameStar x = new SameStar();
        x.feed(1, '7');
        for (int use : new int[] {LEAST, -1, 2, 9, 19, MOST}) {
            due("text " + use, x.text(use), BAD);
            due("the tape stays", x.count(3), 1);
        }
        for (int use : new int[] {0, 1, 10, 18}) {
            due("text " + use, x.text(use), 1);
            due("the tape is empty", x.count(3), 0);
            due("text of nothing", x.text(use), -100);
            x.feed(2, '7' | '+' << 8);
            due("text with a fault", x.text(use), -102);
            due("the tape is empty", x.count(3), 0);
            x.feed(1, '7');
        }
    }

    @Says("-100 less its FAULT")
    static void faultyTextIsNone() {
        SameStar x = Dues.opposite(36000, 40000);
        x.word(99, 0, 0);
        Dues.tell(x, 0, "p=1");
        Dues.tell(x, 1, "7");
        Dues.tell(x, 10, "8");
        for (int use : new int[] {0, 1, 10}) due("text with a fault", Dues.tell(x, use, "9;"), -102);
        due("seen by 0 as before", x.seen(0, 0, 36000), VOID);
        due("seen by 1 as before", x.seen(0, 1, 36000), 0);
        due("the tail as before", x.stands(0, 0, 36000, 3), 7);
        due("the day as before", x.span(0, 0, 0), 8);
    }

    @Says("A REIGN begins on a DAY, perhaps on another one as well (-1: not): 1. BAD.")
    static void reign() {
        SameStar x = new SameStar();
        for (int reign : new int[] {LEAST, -1, 20, 99, MOST}) due("reign " + reign, x.reign(reign, 0, -1), BAD);
        for (int other : new int[] {LEAST, -2, 1000000, MOST}) due("another day " + other, x.reign(0, 5, other), BAD);
        due("reign 0 was not told", x.word(0, 0, 0), BAD);
        Dues.tell(x, 10, "r");
        int[][] wants = {{0, 0, -1}, {19, 999999, 0}, {1, 0, 999999}, {2, 5, 5}};
        for (int i = 0; i < wants.length; i++) {
            int[] w = wants[i];
            due("reign " + w[0], x.reign(w[0], w[1], w[2]), 1);
            due("its word", x.word(w[0], 0, 0), i);
            due("how many spans", x.ofWord(i, 9), w[2] < 0 ? 1 : 2);
            due("the first one", x.span(i, 0, 0), w[1]);
            due("the other one", x.span(i, 1, 0), w[2] < 0 ? VOID : w[2]);
        }
        due("a bad one of a told reign", x.reign(19, 5, -2), BAD);
        due("the told one stays", x.span(1, 0, 0), 999999);
        due("the told one stays", x.span(1, 1, 0), 0);
    }

    @Says("A PEOPLE watched from a DAY to a DAY: how many WATCHES. BAD, FULL: 10.")
    static void watch() {
        SameStar x = new SameStar();
        for (int people : new int[] {LEAST, -1, 9, MOST}) due("people " + people, x.watch(people, 0, 1), BAD);
        due("from behind to", x.watch(0, 6, 5), BAD);
        due("how many", x.count(4), 0);
        due("one day", x.watch(0, 5, 5), 1);
        due("all days", x.watch(8, 0, 999999), 2);
        for (int i = 3; i <= 10; i++) due("watch", x.watch(0, 5, 6), i);
        due("a bad one where none has room", x.watch(9, 5, 6), BAD);
        due("a bad one where none has room", x.watch(0, 6, 5), BAD);
        due("a good one where none has room", x.watch(0, 5, 6), FULL);
        due("how many", x.count(4), 10);
    }
}
