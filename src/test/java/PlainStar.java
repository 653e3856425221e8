import java.util.ArrayList;
import java.util.HashSet;
import java.util.List;
import java.util.Set;
import java.util.TreeSet;

/**
 * The document once more, as plainly as it can be said: every day is tried, nothing is kept ready.
 * AgainstPlainTest holds SameStar against it. Calls that need no thought (rows, counts) are not here.
 */
final class PlainStar {
    static final int BAD = -1, NOT = -2, STATE = -5, VOID = -2000000000;

    static final class Comet {
        int pass, span, node, reach, way, bright, parent = -1, broke = VOID;
        // Passes by all great bodies, as many as there were: naming them anew each time takes too long.
        final Integer[] passes = new Integer[121];
        int passesBy = -1;
    }

    static final class Word {
        int number, kind, people, y, m, d, reign, slack, more;
    }

    final List<int[]> greats = new ArrayList<>();
    final List<Comet> comets = new ArrayList<>();
    final List<Word> words = new ArrayList<>();
    final List<int[]> watches = new ArrayList<>();
    final List<int[]> evenings = new ArrayList<>();
    final int[][] reigns = new int[20][];
    final String[] texts = new String[19];

    // ---- sky

    int addComet(int pass, int span, int node, int reach, int way, int bright) {
        Comet c = new Comet();
        c.pass = pass;
        c.span = span;
        c.node = node;
        c.reach = reach;
        c.way = way;
        c.bright = bright;
        comets.add(c);
        return comets.size() - 1;
    }

    int pulls() {
        int sum = 0;
        for (int[] g : greats) sum += g[1];
        return sum;
    }

    int nextPass(int t, int span, int set) {
        int next = t + span;
        for (int i = 0; i < greats.size(); i++) {
            if ((set & 1 << i) == 0) continue;
            int round = greats.get(i)[0];
            int pull = greats.get(i)[1];
            next += 2 * (t % round) < round ? pull : -pull;
        }
        return next;
    }

    int passAhead(int t, int span) {
        for (int u = t - span + pulls(); u >= t - span - pulls(); u--) {
            if (u >= 0 && u < t && nextPass(u, span, -1) == t) return u;
        }
        return t - span;
    }

    /** null: no such return. */
    Integer passOf(Comet c, int k) {
        if (c.passesBy != greats.size()) {
            for (int i = -60; i <= 60; i++) c.passes[i + 60] = passBy(c, i, -1);
            c.passesBy = greats.size();
        }
        return c.passes[k + 60];
    }

    Integer passBy(Comet c, int k, int set) {
        int t = c.pass;
        for (int i = 0; i < Math.abs(k); i++) {
            t = k > 0 ? nextPass(t, c.span, set) : passAhead(t, c.span);
            if (!isPass(t)) return null;
        }
        return t;
    }

    static boolean isPass(int day) {
        return day >= 0 && day <= 999999;
    }

    int wide(int k) {
        return Math.abs(k) * pulls();
    }

    static int apart(int a, int b) {
        int way = Math.floorMod(a - b, 360);
        return Math.min(way, 360 - way);
    }

    static int degree(Comet c, int e) {
        return (c.node + c.way * 90 * e / (Math.abs(e) + c.reach) + 360) % 360;
    }

    int tail(Comet c, int people, int pass, int day) {
        if (texts[1] == null) return 0;
        return Math.max(0, Math.min(99, new Reader(texts[1], skyNames(c, people, pass, day)).value()));
    }

    boolean canBeSeen(Comet c, int people, int pass, int day) {
        if (Math.abs(day - pass) > 120) return false;
        if (apart(degree(c, day - pass), day % 360) < 15) return false;
        return texts[0] == null || new Reader(texts[0], skyNames(c, people, pass, day)).value() != 0;
    }

    static int[] skyNames(Comet c, int people, int pass, int day) {
        int[] names = new int[128];
        int e = day - pass;
        names['s'] = apart(degree(c, e), day % 360);
        names['q'] = c.reach + Math.abs(e);
        names['b'] = c.bright;
        names['g'] = degree(c, e);
        names['e'] = e;
        names['d'] = day % 30;
        names['p'] = people;
        return names;
    }

    int seen(int comet, int people, int day) {
        Comet c = comets.get(comet);
        for (int k = -60; k <= 60; k++) {
            Integer pass = passOf(c, k);
            if (pass != null && canBeSeen(c, people, pass, day)) return k;
        }
        return VOID;
    }

    // ---- texts

    /** Works a text out anew each time, straight from its signs. */
    static final class Reader {
        final String text;
        final int[] names;
        int at = 0;

        Reader(String text, int[] names) {
            this.text = text;
            this.names = names;
        }

        int value() {
            for (String line : text.split(";")) {
                int ask = line.indexOf('?');
                if (ask < 0) return new Reader(line, names).either();
                if (new Reader(line.substring(0, ask), names).either() != 0) {
                    return new Reader(line.substring(ask + 1), names).either();
                }
            }
            return 0;
        }

        char sign() {
            return at < text.length() ? text.charAt(at) : 0;
        }

        int either() {
            int v = both();
            while (sign() == '|') {
                at++;
                int w = both();
                v = v != 0 | w != 0 ? 1 : 0;
            }
            return v;
        }

        int both() {
            int v = compared();
            while (sign() == '&') {
                at++;
                int w = compared();
                v = v != 0 & w != 0 ? 1 : 0;
            }
            return v;
        }

        int compared() {
            int v = sum();
            char c = sign();
            if (c != '<' && c != '=' && c != '>') return v;
            at++;
            int w = sum();
            return (c == '<' ? v < w : c == '=' ? v == w : v > w) ? 1 : 0;
        }

        int sum() {
            int v = product();
            while (sign() == '+' || sign() == '-') {
                char c = sign();
                at++;
                int w = product();
                v = c == '+' ? v + w : v - w;
            }
            return v;
        }

        int product() {
            int v = operand();
            while (sign() == '*' || sign() == '/' || sign() == '%') {
                char c = sign();
                at++;
                int w = operand();
                v = c == '*' ? v * w : w == 0 ? 0 : c == '/' ? v / w : v % w;
            }
            return v;
        }

        int operand() {
            char c = sign();
            at++;
            if (c == '!') return operand() == 0 ? 1 : 0;
            if (c == '-') return -operand();
            if (c == '(') {
                int v = either();
                at++;
                return v;
            }
            if (c >= 'a') return names[c];
            int v = c - '0';
            while (Character.isDigit(sign())) {
                v = v * 10 + sign() - '0';
                at++;
            }
            return v;
        }
    }

    /** -1: a text. By the words: the first byte with which no text goes on. */
    static int fault(String tape) {
        for (int n = 1; n <= tape.length(); n++) {
            if (!goesOn(tape.substring(0, n))) return n - 1;
        }
        return isText(tape) ? -1 : tape.length();
    }

    // What goes on as a text does so with an operand or without one, and then with brackets that close.
    static boolean goesOn(String start) {
        for (String more : new String[] {"", "1"}) {
            for (String close = ""; close.length() <= 6; close += ")") {
                if (isText(start + more + close)) return true;
            }
        }
        return false;
    }

    static boolean isText(String s) {
        for (String line : s.split(";", -1)) {
            String[] parts = line.split("\\?", -1);
            if (parts.length > 2) return false;
            for (String part : parts) {
                if (!ends(part, 'E', 0, 0).contains(part.length())) return false;
            }
        }
        return true;
    }

    /** Every place at which a part of a kind that begins at a place can end. */
    static Set<Integer> ends(String s, char kind, int at, int open) {
        switch (kind) {
            case 'E': return chain(s, 'A', "|", at, open, 1000);
            case 'A': return chain(s, 'B', "&", at, open, 1000);
            case 'B': return chain(s, 'S', "<=>", at, open, 1);
            case 'S': return chain(s, 'P', "+-", at, open, 1000);
            case 'P': return chain(s, 'O', "*/%", at, open, 1000);
            default: return operandEnds(s, at, open);
        }
    }

    static Set<Integer> chain(String s, char part, String between, int at, int open, int most) {
        Set<Integer> all = new HashSet<>(ends(s, part, at, open));
        Set<Integer> last = all;
        for (int i = 0; i < most && !last.isEmpty(); i++) {
            Set<Integer> next = new HashSet<>();
            for (int end : last) {
                if (end < s.length() && between.indexOf(s.charAt(end)) >= 0) next.addAll(ends(s, part, end + 1, open));
            }
            all = new HashSet<>(all);
            all.addAll(next);
            last = next;
        }
        return all;
    }

    static Set<Integer> operandEnds(String s, int at, int open) {
        Set<Integer> ends = new HashSet<>();
        if (at >= s.length()) return ends;
        char c = s.charAt(at);
        if ("sqbgedpymr".indexOf(c) >= 0) ends.add(at + 1);
        for (int i = at; i < Math.min(s.length(), at + 6) && s.charAt(i) >= '0' && s.charAt(i) <= '9'; i++) ends.add(i + 1);
        if (open == 6) return ends;
        if (c == '!' || c == '-') ends.addAll(ends(s, 'O', at + 1, open + 1));
        if (c == '(') {
            for (int end : ends(s, 'E', at + 1, open + 1)) {
                if (end < s.length() && s.charAt(end) == ')') ends.add(end + 1);
            }
        }
        return ends;
    }

    // ---- words

    Word root(Word w) {
        return w.kind == 3 ? root(words.get(w.more)) : w;
    }

    /** First and last day of each span, moved and cut; the first is above the last, if none is left. */
    List<int[]> spans(Word word, int move) {
        Word w = root(word);
        List<int[]> spans = new ArrayList<>();
        int[] begins = w.reign < 0 ? new int[] {0} : reigns[w.reign];
        for (int begin : begins) {
            long day = 360 * w.y + 30 * w.m + w.d;
            if (texts[10 + w.people] != null) {
                int[] names = new int[128];
                names['y'] = w.y;
                names['m'] = w.m;
                names['d'] = w.d;
                names['r'] = begin;
                day = new Reader(texts[10 + w.people], names).value();
            }
            day = Math.max(-2000000, Math.min(2000000, day));
            spans.add(new int[] {(int) Math.max(0, day - w.slack + move), (int) Math.min(999999, day + w.slack + move)});
        }
        return spans;
    }

    /** Every day on which a word fits a pass. */
    TreeSet<Integer> fitDays(Word w, Comet c, int pass, int move) {
        TreeSet<Integer> days = new TreeSet<>();
        boolean turned = false;
        for (int[] span : spans(w, move)) {
            for (int day = Math.max(span[0], pass - 130); day <= Math.min(span[1], pass + 130); day++) {
                if (!canBeSeen(c, w.people, pass, day)) continue;
                if (holds(w, c, pass, day)) days.add(day);
                else turned = true;
            }
        }
        if (w.kind == 7 && !turned) days.clear();
        return days;
    }

    boolean holds(Word w, Comet c, int pass, int day) {
        int g = degree(c, day - pass);
        switch (w.kind) {
            case 1:
                for (int lodge = 15 * w.more; lodge < 15 * w.more + 15; lodge++) {
                    if (apart(g, lodge) <= 7) return true;
                }
                return false;
            case 6: return g / 15 == w.more;
            case 2:
            case 7: return (Math.floorMod(g - day % 360, 360) < 180 ? 1 : 0) == w.more;
            case 4: return Math.abs(day - pass) <= 10;
            case 5: return tail(c, w.people, pass, day) == 0;
            default: return true;
        }
    }

    int fits(int word, int comet, int k) {
        Integer pass = passOf(comets.get(comet), k);
        if (pass == null) return NOT;
        TreeSet<Integer> days = fitDays(words.get(word), comets.get(comet), pass, 0);
        return days.isEmpty() ? NOT : days.first();
    }

    int perhaps(int word, int comet, int k) {
        Integer pass = passOf(comets.get(comet), k);
        if (pass == null) return NOT;
        Integer best = null;
        for (int move = -wide(k); move <= wide(k); move += 1 + wide(k) / 20) {
            if (!isPass(pass + move) || fitDays(words.get(word), comets.get(comet), pass + move, 0).isEmpty()) continue;
            if (best == null || Math.abs(move) < Math.abs(best)) best = move;
        }
        return best == null ? NOT : best;
    }

    int whose(int word, int comet) {
        for (int k = -60; k <= 60; k++) {
            if (fits(word, comet, k) != NOT) return k;
        }
        return VOID;
    }

    int evening(int word, int other) {
        TreeSet<Integer> common = new TreeSet<>(allDays(words.get(word)));
        common.retainAll(allDays(words.get(other)));
        return common.isEmpty() ? NOT : common.first();
    }

    TreeSet<Integer> allDays(Word w) {
        TreeSet<Integer> days = new TreeSet<>();
        for (int[] span : spans(w, 0)) {
            for (int day = span[0]; day <= span[1]; day++) days.add(day);
        }
        return days;
    }

    int behind(int word, int other) {
        for (int i = 0; i < comets.size(); i++) {
            for (int k = -60; k <= 60; k++) {
                Integer pass = passOf(comets.get(i), k);
                if (pass == null) continue;
                TreeSet<Integer> one = fitDays(words.get(word), comets.get(i), pass, 0);
                TreeSet<Integer> two = fitDays(words.get(other), comets.get(i), pass, 0);
                if (one.isEmpty() || two.isEmpty()) continue;
                if (one.first() < pass && two.last() > pass || two.first() < pass && one.last() > pass) return 1000 * i + 100 + k;
            }
        }
        return NOT;
    }

    int once(int people) {
        Set<Integer> roots = new HashSet<>();
        for (Word w : words) {
            if (people == -1 || w.people == people) roots.add(root(w).number);
        }
        return roots.size();
    }

    // ---- stories

    int judge(int set) {
        Set<Integer> roots = new HashSet<>();
        int worth = 0;
        for (int i = 0; i < comets.size(); i++) {
            if ((set & 1 << i) == 0) continue;
            worth -= 5;
            for (int k = -60; k <= 60; k++) {
                if (passOf(comets.get(i), k) == null) continue;
                boolean told = false;
                for (Word w : words) {
                    if (fits(w.number, i, k) == NOT) continue;
                    told = true;
                    if (w.kind != 3) roots.add(w.number);
                }
                if (!told && isSure(comets.get(i), passOf(comets.get(i), k))) worth--;
            }
        }
        return worth + 3 * roots.size();
    }

    boolean isSure(Comet c, int pass) {
        for (int[] watch : watches) {
            int days = 0;
            for (int day = Math.max(watch[1], pass - 130); day <= Math.min(watch[2], pass + 130); day++) {
                if (canBeSeen(c, watch[0], pass, day)) days++;
            }
            if (days >= 5) return true;
        }
        return false;
    }

    int best() {
        int best = 0;
        int n = Math.min(6, comets.size());
        for (int set = 1; set < 1 << n; set++) {
            int more = judge(set) - judge(best);
            if (more > 0 || more == 0 && Integer.bitCount(set) < Integer.bitCount(best)) best = set;
        }
        return best;
    }

    int paths(int day, int slack, int what) {
        if (evenings.size() < 2) return STATE;
        int found = 0;
        for (int pass = day - 60; pass <= day + 60; pass++) {
            if (!isPass(pass)) continue;
            for (int reach = 5; reach <= 95; reach += 10) {
                for (int way : new int[] {1, -1}) {
                    Comet c = new Comet();
                    c.reach = reach;
                    c.way = way;
                    int[] first = evenings.get(0);
                    int e = first[0] - pass;
                    c.node = (first[1] - way * 90 * e / (Math.abs(e) + reach) + 720) % 360;
                    boolean lets = true;
                    for (int[] evening : evenings) {
                        int f = evening[0] - pass;
                        lets = lets && Math.abs(f) <= 120 && (evening == first || apart(degree(c, f), evening[1]) <= slack);
                    }
                    if (!lets) continue;
                    found++;
                    if (what != 0) return new int[] {0, pass, reach, way, c.node}[what];
                }
            }
        }
        return what == 0 ? found : NOT;
    }

    int foretold(int comet, int k, int set, int what) {
        Integer told = passBy(comets.get(comet), k, set);
        Integer is = passOf(comets.get(comet), k);
        if (told == null || what == 1 && is == null) return VOID;
        return what == 0 ? told : is - told;
    }

    int right(int people, int comet, int what) {
        int best = 0;
        int most = -1;
        for (int s = -400; s <= 400; s += 10) {
            int fitting = 0;
            for (Word w : words) {
                if (w.people != people || w.kind == 3) continue;
                boolean fits = false;
                for (int k = -60; k <= 60 && !fits; k++) {
                    Integer pass = passOf(comets.get(comet), k);
                    fits = pass != null && !fitDays(w, comets.get(comet), pass, s).isEmpty();
                }
                if (fits) fitting++;
            }
            if (fitting > most || fitting == most && Math.abs(s) < Math.abs(best)) {
                best = s;
                most = fitting;
            }
        }
        return what == 0 ? best : most;
    }

    int kin(int comet) {
        int kin = 0;
        for (int i = 0; i < comets.size(); i++) {
            if (first(i) == first(comet)) kin |= 1 << i;
        }
        return kin;
    }

    int first(int comet) {
        return comets.get(comet).parent < 0 ? comet : first(comets.get(comet).parent);
    }

    int next(int comet, int other, int what) {
        int[] best = null;
        for (int[] watch : watches) {
            for (int day = watch[1]; day <= watch[2]; day++) {
                if (best != null && (best[0] < day || best[0] == day && best[1] <= watch[0])) break;
                if (seen(comet, watch[0], day) == VOID || seen(other, watch[0], day) != VOID) continue;
                best = new int[] {day, watch[0]};
                break;
            }
        }
        return best == null ? NOT : best[what];
    }

}
