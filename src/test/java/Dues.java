/** Holds answers against those that are due, and tells the tape's bytes to an object. */
final class Dues {
    private final String test;
    private int wrong = 0;

    Dues(String test) {
        this.test = test;
    }

    void due(String call, long got, long want) {
        if (got == want) return;
        wrong++;
        System.out.println(test + ": " + call + " answered " + got + ", due is " + want);
    }

    /** Feeds a text by the bytes and makes it the text of a use: 1, or what text() answers else. */
    static int tell(SameStar star, int use, String tape) {
        for (int i = 0; i < tape.length(); i++) {
            star.feed(1, tape.charAt(i));
        }
        return star.text(use);
    }

    /** The day as year, month, day of the reckoning that counts without a text. */
    static void date(SameStar star, int day) {
        star.date(day / 360, day % 360 / 30, day % 30);
    }

    /** A word without a reign, by the reckoning that counts without a text: its number. */
    static int add(SameStar star, int kind, int people, int day, int slack, int more) {
        date(star, day);
        return star.word(10000 * people + 100 * kind + 99, slack, more);
    }

    /**
     * A comet that passes on day 36000, when the sun is at 0, from degree 90 on against the sun's way:
     * in the east from 120 days ahead to 26, in the west from 25 ahead to 18 behind, too near the sun
     * then, and in the east again from 35 behind on.
     */
    static SameStar turning() {
        SameStar star = new SameStar();
        star.comet(36000, 40000, 109010, 5);
        return star;
    }

    /**
     * A comet that stands opposite the sun when it passes, so that all can see it on all days from 120
     * ahead of the pass to 120 behind it: in the east up to the pass, in the west behind it.
     */
    static SameStar opposite(int pass, int span) {
        SameStar star = new SameStar();
        addOpposite(star, pass, span);
        return star;
    }

    static int addOpposite(SameStar star, int pass, int span) {
        return star.comet(pass, span, 100 * ((pass + 180) % 360) + 99, 5);
    }

    void end() {
        System.out.println(test + ": " + (wrong == 0 ? "all answers are as due" : wrong + " answers are not as due"));
        if (wrong != 0) System.exit(1);
    }
}
