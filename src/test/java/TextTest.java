/** Promises 8 to 11: the tape, texts and their faults, reigns, watches. */
public final class TextTest {
    private static final int BAD = SameStar.BAD, FULL = SameStar.FULL, VOID = SameStar.VOID;
    private static final Dues DUES = new Dues("TextTest");

    public static void main(String[] args) {
        feed();
        uses();
        values();
        lines();
        faults();
        faultsByTrying();
        reckonings();
        reigns();
        watches();
        DUES.end();
    }

    private static void due(String call, long got, long want) {
        DUES.due(call, got, want);
    }

    private static void feed() {
        SameStar x = new SameStar();
        due("feed 0", x.feed(0, 0), BAD);
        due("feed 5", x.feed(5, 0), BAD);
        due("feed -1", x.feed(-1, 0), BAD);
        // The lowest byte first: "7", "+", "4" and one that is not fed.
        due("feed 3", x.feed(3, '7' | '+' << 8 | '4' << 16 | '!' << 24), 3);
        due("text of three bytes", x.text(1), 1);
        x.comet(3600, 1000, 9010, 5);
        due("7+4", x.stands(0, 0, 3600, 3), 11);
        for (int i = 1; i <= 29; i++) due("feed to " + 4 * i, x.feed(4, 0x31313131), 4 * i);
        due("feed to 119", x.feed(3, 0x2b31312b), 119);
        due("feed beyond 120", x.feed(2, 0), FULL);
        due("feed bad ahead of full", x.feed(5, 0), BAD);
        due("count after full", x.count(3), 119);
        due("feed to 120", x.feed(1, '1'), 120);
        due("feed to 121", x.feed(1, '1'), FULL);
        due("feed high byte", Dues.tell(new SameStar(), 0, "1\u00b2"), -101);
    }

    private static void uses() {
        SameStar x = new SameStar();
        int[] bad = {-1, 2, 9, 19, 100};
        x.feed(1, '1');
        for (int use : bad) due("text " + use, x.text(use), BAD);
        due("the tape stays", x.count(3), 1);
        int[] good = {0, 1, 10, 18};
        for (int use : good) due("text " + use, Dues.tell(x, use, use == 0 ? "" : "2"), 1);
        due("the tape is empty", x.count(3), 0);
        due("text of nothing", x.text(0), -100);
        StringBuilder longest = new StringBuilder("1");
        for (int i = 1; i < 120; i++) longest.append(i % 2 == 1 ? '-' : '1');
        longest.setLength(119);
        due("text of 119 bytes", Dues.tell(x, 1, longest.toString()), 1);
        due("text of 120 bytes", Dues.tell(x, 1, longest + "1"), 1);
        due("text that ends too early at 120", Dues.tell(x, 1, longest + "+"), -220);
    }

    // Tails of a return that stands 10 days behind its pass, at 135 degrees and 125 from the sun.
    private static SameStar standing() {
        SameStar x = new SameStar();
        x.comet(3600, 1000, 9010, 5);
        return x;
    }

    private static void value(String text, int want) {
        SameStar x = standing();
        due("text " + text, Dues.tell(x, 1, text), 1);
        due("value of " + text, x.stands(0, 0, 3610, 3), want);
    }

    private static void values() {
        Object[][] values = {
            {"1+2*3", 7}, {"(1+2)*3", 9}, {"9-3-2", 4}, {"9-(3-2)", 8}, {"20/3/2", 3}, {"7%4*2", 6}, {"2*7%4", 2}, {"17-9/2", 13},
            {"5+0-7/2", 2}, {"5+-7/2", 2}, {"9+-7%4", 6}, {"9+7/0", 9}, {"9+7%0", 9}, {"50--7", 57}, {"50-!0", 49}, {"50-!7", 50},
            {"50+!!7", 51}, {"50+-!0", 49}, {"-3*-4", 12}, {"!s+4", 4}, {"!(s=125)+4", 4},
            {"10+(1<2)", 11}, {"10+(2<1)", 10}, {"10+(2<2)", 10}, {"10+(2=2)", 11}, {"10+(2=1)", 10}, {"10+(2>1)", 11}, {"10+(2>2)", 10},
            {"10+(1>2)", 10}, {"10+(3&2)", 11}, {"10+(3&0)", 10}, {"10+(0&3)", 10}, {"10+(0|2)", 11}, {"10+(4|0)", 11}, {"10+(0|0)", 10},
            {"10+(1|0&0)", 11}, {"10+((1|0)&0)", 10}, {"10+(0=1&0)", 10}, {"10+(0=(1&0))", 11}, {"10+(1+1<3)", 11}, {"10+(1+(1<3))", 12},
            {"1<2+5", 1}, {"0&1|1", 1}, {"1&1&0|0|0", 0}, {"1|1=0", 1},
            {"999999/10101", 99}, {"000012", 12}, {"99999*99999/999999/100", 14}, {"-(99999*99999)/999999/100+20", 6},
            {"s", 99}, {"s-100", 25}, {"((((((7))))))", 7}, {"!-!-!-0", 1}, {"-(-(-(0-8)))", 8},
            {"(-1)*(-2)*(-3)*(-4)", 24},
        };
        for (Object[] v : values) value((String) v[0], (Integer) v[1]);
        // The least int stays what it is, when it is turned or parted by -1.
        value("50+(-(0-2048*1024*1024)=2048*1024*1024)", 51);
        value("50+((0-2048*1024*1024)/-1<0)", 51);
        value("50+(0-2048*1024*1024)%-1", 50);
    }

    private static void lines() {
        Object[][] values = {
            {"1?7;9", 7}, {"0?7;9", 9}, {"-3?7;9", 7}, {"0?7", 0}, {"0?7;0?8", 0}, {"0?1;0?2;1?3;4", 3}, {"5;6", 5}, {"0;6", 0}, {"0?5;s-100;8", 25},
            {"e<0?1;e=10?g-100;3", 35}, {"1&0|0?4;0+0?5;6", 6}, {"2=2?0;7", 0}, {"0?1;0?2;0?3;0?4;0?5;6", 6},
        };
        for (Object[] v : values) value((String) v[0], (Integer) v[1]);
    }

    private static void faults() {
        Object[][] faults = {
            {"", 0}, {"x", 0}, {"S", 0}, {" 1", 0}, {"1 ", 1}, {"1;", 2}, {";1", 0}, {"1;;1", 2}, {"1?", 2}, {"?1", 0}, {"1?2?3", 3},
            {"1?2;3?4;5?6?7", 11}, {"1<2<3", 3}, {"1<2=3", 3}, {"1=2>3", 3}, {"(1<2)<3", -1}, {"1<2&3<4|5=6", -1}, {"1<", 2}, {"1&", 2}, {"1|", 2},
            {"1+", 2}, {"1*", 2}, {"1**2", 2}, {"1+*2", 2}, {"1+-2", -1}, {"1-+2", 2}, {"1!2", 1}, {"1(2)", 1}, {"()", 1}, {"(1", 2}, {"(1))", 3},
            {"(1?2)", 2}, {"(1;2)", 2}, {"1234567", 6}, {"123456", -1}, {"0000001", 6}, {"12s", 2}, {"s1", 1}, {"sq", 1}, {"s(", 1},
            {"((((((1))))))", -1}, {"(((((((1)))))))", 6}, {"!!!!!!1", -1}, {"!!!!!!!1", 6}, {"------1", -1}, {"-------1", 6},
            {"(!-(!-1)*2)", -1}, {"(!-(!-(1)))", 6}, {"(!-(!1)*(-1))", -1}, {"!!!!!!1+!!!!!!1", -1}, {"(((1)))*((((((1))))))", -1},
            {"1?((((((1))))))", -1}, {"1?(((((((1)))))))", 8}, {"((((((1))))))?1", -1}, {"1;!!!!!!1", -1},
            {"((1)+(((((1))))))", -1}, {"((1)+((((((1)))))))", 10}, {"1-------1", -1}, {"1--------1", 8}, {"=1", 0}, {"&", 0}, {"1,2", 1},
            {"s+q+b+g+e+d+p+y+m+r", -1}, {"a", 0}, {"c", 0}, {"f", 0}, {"z", 0}, {"o+1", 0}, {"1+n", 2}, {"#", 0}, {"1~", 1},
        };
        for (Object[] f : faults) {
            int fault = (Integer) f[1];
            due("text " + f[0], Dues.tell(new SameStar(), 0, (String) f[0]), fault < 0 ? 1 : -100 - fault);
        }
        SameStar x = standing();
        Dues.tell(x, 1, "42");
        due("a fault", Dues.tell(x, 1, "43+"), -103);
        due("the tape is empty after a fault", x.count(3), 0);
        due("the text is as it was", x.stands(0, 0, 3610, 3), 42);
    }

    // Every tape of a few signs, held against what the words say of faults.
    private static void faultsByTrying() {
        String signs = "1s(!-)<?;*|";
        for (int length = 1; length <= 4; length++) {
            int tapes = (int) Math.pow(signs.length(), length);
            for (int i = 0; i < tapes; i++) {
                SameStar x = new SameStar();
                StringBuilder tape = new StringBuilder();
                for (int j = 0, rest = i; j < length; j++, rest /= signs.length()) tape.append(signs.charAt(rest % signs.length()));
                int fault = PlainStar.fault(tape.toString());
                due("text " + tape, Dues.tell(x, 0, tape.toString()), fault < 0 ? 1 : -100 - fault);
            }
        }
    }

    private static int reckoned(String text, int y, int m, int d, int reignDay) {
        SameStar x = new SameStar();
        due("text " + text, Dues.tell(x, 14, text), 1);
        x.date(y, m, d);
        if (reignDay >= 0) x.reign(3, reignDay, -1);
        due("word", x.word(reignDay < 0 ? 40099 : 40003, 0, 0), 0);
        return x.span(0, 0, 0);
    }

    private static void reckonings() {
        due("y m d", reckoned("y*10000+m*100+d", 12, 34, 56, -1), 123456);
        due("r", reckoned("r+1", 1, 2, 3, 5000), 5001);
        due("r without a reign", reckoned("r+1", 1, 2, 3, -1), 1);
        due("names of the sky are 0", reckoned("s+q+b+g+e+p+77", 1, 2, 3, -1), 77);
        due("lines", reckoned("m=2?5;6", 1, 2, 3, -1), 5);
        SameStar x = new SameStar();
        x.date(10, 2, 9);
        x.word(40099, 5, 0);
        x.word(50099, 5, 0);
        due("span without a text", x.span(0, 0, 0), 3664);
        Dues.tell(x, 14, "350*y+30*m+d");
        due("span by the text told later", x.span(0, 0, 0), 3564);
        due("span of another people", x.span(1, 0, 0), 3664);
        Dues.tell(x, 14, "100");
        due("the one told last counts", x.span(0, 0, 1), 105);
        // Held within 2000000 first, and only then widened by the slack, and cut.
        x.word(40099, 400, 0);
        Dues.tell(x, 14, "0-999999*1");
        due("span far below", x.span(2, 0, 0), VOID);
        Dues.tell(x, 14, "1000*1000+399");
        due("span beyond the end by slack", x.span(2, 0, 0), 999999);
        Dues.tell(x, 14, "2048*1024*1024-1");
        due("span of the greatest int", x.span(2, 0, 0), VOID);
        Dues.tell(x, 14, "2048*1024*1024");
        due("span of the least int", x.span(2, 0, 0), VOID);
    }

    private static void reigns() {
        SameStar x = new SameStar();
        due("reign -1", x.reign(-1, 0, -1), BAD);
        due("reign 20", x.reign(20, 0, -1), BAD);
        due("reign day -1", x.reign(0, -1, -1), BAD);
        due("reign day 1000000", x.reign(0, 1000000, -1), BAD);
        due("reign other -2", x.reign(0, 0, -2), BAD);
        due("reign other 1000000", x.reign(0, 0, 1000000), BAD);
        due("a bad one was not told", x.word(0, 0, 0), BAD);
        due("reign 0", x.reign(0, 0, -1), 1);
        due("reign 19", x.reign(19, 999999, 0), 1);
        due("word of reign 0", x.word(0, 0, 0), 0);
        due("word of reign 19", x.word(19, 0, 0), 1);
        due("word of reign 18", x.word(18, 0, 0), BAD);
        due("spans of reign 0", x.ofWord(0, 9), 1);
        due("spans of reign 19", x.ofWord(1, 9), 2);
        Dues.tell(x, 10, "r");
        due("span 0 of reign 19", x.span(1, 0, 0), 999999);
        due("span 1 of reign 19", x.span(1, 1, 0), 0);
        due("reign 0 again", x.reign(0, 77, 99), 1);
        due("spans told anew", x.ofWord(0, 9), 2);
        due("span 0 told anew", x.span(0, 0, 0), 77);
        due("span 1 told anew", x.span(0, 1, 0), 99);
    }

    private static void watches() {
        SameStar x = new SameStar();
        due("watch people 9", x.watch(9, 0, 1), BAD);
        due("watch people -1", x.watch(-1, 0, 1), BAD);
        due("watch from -1", x.watch(0, -1, 1), BAD);
        due("watch to 1000000", x.watch(0, 0, 1000000), BAD);
        due("watch from above to", x.watch(0, 2, 1), BAD);
        due("watch one day", x.watch(0, 999999, 999999), 1);
        for (int i = 2; i <= 10; i++) due("watch " + i, x.watch(8, 0, 999999), i);
        due("watch 11", x.watch(8, 0, 1), FULL);
        due("watch bad ahead of full", x.watch(8, 2, 1), BAD);
        due("count", x.count(4), 10);
    }
}
