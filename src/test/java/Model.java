import java.math.BigInteger;
import java.util.ArrayList;
import java.util.List;

/**
 * The document told a second time, in the plainest other way, for RandomRunsTest: states are copied
 * whole, prerequisites stay texts, fractions are BigIntegers, and nothing is kept short for speed.
 */
final class Model {
    private static final int NONE = -1;
    private static final int BAD = -2;
    private static final int FULL = -3;
    private static final int ALREADY = -4;

    static final class State {
        int day = 0;
        final long[][] skills = new long[10][9];   // for, against, interval, due, last, given, given, cut, lost
        final int[][] items = new int[12][3];      // right, wrong, day

        State() {
            for (long[] s : skills) {
                s[2] = 1;
                s[3] = -1;
                s[4] = -1;
            }
            for (int[] i : items) {
                i[2] = -1;
            }
        }

        State copy() {
            State c = new State();
            c.day = day;
            for (int s = 0; s < 10; s++) {
                System.arraycopy(skills[s], 0, c.skills[s], 0, 9);
            }
            for (int i = 0; i < 12; i++) {
                System.arraycopy(items[i], 0, c.items[i], 0, 3);
            }
            return c;
        }
    }

    private List<Integer> marks = new ArrayList<>(List.of(70));
    private List<String> needs = new ArrayList<>(List.of(""));
    private List<int[]> items = new ArrayList<>();
    private State now = new State();
    private List<State> before = new ArrayList<>();
    private List<int[]> entries = new ArrayList<>();
    private State start = new State();
    private String text = "";
    private String written = "";
    private List<int[]> levels = new ArrayList<>();
    private List<Integer> savedMarks = null;
    private List<String> savedNeeds = null;
    private List<int[]> savedItems = null;
    private State saved = null;

    int append(int code, int count) {
        if (code < 0 || code > 127 || count < 1 || count > 80) return BAD;
        if (text.length() + count > 80) return FULL;
        text += String.valueOf((char) code).repeat(count);
        return text.length();
    }

    // The reader is an automaton that looks at one character after the other.
    int readCurriculum() {
        String t = text;
        text = "";
        int skill = 0;
        int open = 0;
        String wants = "first";
        for (int i = 0; i < t.length(); i++) {
            char c = t.charAt(i);
            String next = null;
            boolean digit = c >= '0' && c <= '9';
            switch (wants) {
                case "first":
                    if (digit && c != '0') next = "second";
                    break;
                case "second":
                    if (digit) next = "equals";
                    if (c == '=') next = "atom";
                    if (c == ';' && skill < 9) next = "first";
                    break;
                case "equals":
                    if (c == '=') next = "atom";
                    if (c == ';' && skill < 9) next = "first";
                    break;
                case "atom":
                    if (digit && c - '0' < skill) next = "operator";
                    if (c == '(' && open < 5) next = "atom";
                    if (c == '(') open++;
                    break;
                default:
                    if (c == '&' || c == '|') next = "atom";
                    if (c == ')' && open > 0) {
                        next = "operator";
                        open--;
                    }
                    if (c == ';' && open == 0 && skill < 9) next = "first";
            }
            if (next == null) return -100 - i;
            if (c == ';') skill++;
            wants = next;
        }
        if (wants.equals("first") || wants.equals("atom") || open > 0) return -100 - t.length();
        marks = new ArrayList<>();
        needs = new ArrayList<>();
        for (String part : t.split(";")) {
            String[] sides = part.split("=");
            marks.add(Integer.parseInt(sides[0]));
            needs.add(sides.length > 1 ? sides[1] : "");
        }
        items = new ArrayList<>();
        now = new State();
        begin();
        return marks.size();
    }

    private void begin() {
        before = new ArrayList<>();
        entries = new ArrayList<>();
        start = now.copy();
    }

    // The parts of a text between signs that stand in no parenthesis.
    private static List<String> parts(String e, char sign) {
        List<String> result = new ArrayList<>();
        int open = 0;
        int from = 0;
        for (int i = 0; i < e.length(); i++) {
            char c = e.charAt(i);
            if (c == '(') open++;
            if (c == ')') open--;
            if (c == sign && open == 0) {
                result.add(e.substring(from, i));
                from = i + 1;
            }
        }
        result.add(e.substring(from));
        return result;
    }

    private static String inner(String e) {
        return e.substring(1, e.length() - 1);
    }

    private boolean holds(State s, String e) {
        if (parts(e, '|').size() > 1) return parts(e, '|').stream().anyMatch(p -> holds(s, p));
        if (parts(e, '&').size() > 1) return parts(e, '&').stream().allMatch(p -> holds(s, p));
        return e.charAt(0) == '(' ? holds(s, inner(e)) : mastered(s, e.charAt(0) - '0');
    }

    private int blocks(State s, String e) {
        if (parts(e, '|').size() > 1) return blocks(s, parts(e, '|').get(0));
        for (String p : parts(e, '&')) {
            if (parts(e, '&').size() > 1 && !holds(s, p)) return blocks(s, p);
        }
        return e.charAt(0) == '(' ? blocks(s, inner(e)) : e.charAt(0) - '0';
    }

    private static boolean isOr(String e) {
        if (parts(e, '|').size() > 1) return true;
        return parts(e, '&').size() == 1 && e.charAt(0) == '(' && isOr(inner(e));
    }

    private static String plain(String e) {
        List<String> ors = parts(e, '|');
        List<String> ands = parts(e, '&');
        List<String> out = new ArrayList<>();
        if (ors.size() > 1) {
            for (String p : ors) out.add(plain(p));
            return String.join("|", out);
        }
        if (ands.size() > 1) {
            for (String p : ands) out.add(isOr(p) ? "(" + plain(p) + ")" : plain(p));
            return String.join("&", out);
        }
        return e.charAt(0) == '(' ? plain(inner(e)) : e;
    }

    private boolean hasSkill(int s) {
        return s >= 0 && s < marks.size();
    }

    private boolean hasItem(int i) {
        return i >= 0 && i < items.size();
    }

    private boolean mastered(State s, int skill) {
        long[] k = s.skills[skill];
        return 100 * (k[0] + 16) >= marks.get(skill) * (k[0] + k[1] + 32);
    }

    private boolean ready(State s, int skill) {
        return needs.get(skill).isEmpty() || holds(s, needs.get(skill));
    }

    private boolean open(State s, int item) {
        return s.items[item][2] != s.day;
    }

    private void give(State s, int item, boolean right) {
        int skill = items.get(item)[0];
        boolean[] was = new boolean[10];
        for (int i = 0; i < marks.size(); i++) was[i] = mastered(s, i);
        long[] k = s.skills[skill];
        int side = right ? 0 : 1;
        k[4] = s.day;
        add(k, side, 16);
        for (int i = 0; i < marks.size(); i++) {
            boolean stands = needs.get(skill).indexOf('0' + i) >= 0;
            if (stands && (right || !was[i])) add(s.skills[i], side, 4);
        }
        k[2] = right ? (k[2] == 64 ? 64 : k[2] * 2) : 1;
        k[3] = s.day + k[2];
        s.items[item][side]++;
        s.items[item][2] = s.day;
    }

    private static void add(long[] k, int side, int amount) {
        k[side] += amount;
        k[5 + side] += amount;
        while (k[side] > 480) {
            k[side]--;
            k[7]++;
        }
    }

    private void pass(State s) {
        s.day++;
        for (long[] k : s.skills) {
            if (k[4] == -1 || s.day - k[4] < k[2]) continue;
            for (int side = 0; side < 2; side++) {
                long loss = k[side] / 8;
                k[side] -= loss;
                k[8] += loss;
            }
        }
    }

    int addItem(int skill, int difficulty) {
        if (!hasSkill(skill)) return NONE;
        if (difficulty < 0 || difficulty > 4) return BAD;
        if (items.size() == 12) return FULL;
        items.add(new int[] {skill, difficulty});
        return items.size() - 1;
    }

    int item(int item, int what) {
        if (!hasItem(item)) return NONE;
        if (what < 0 || what > 4) return BAD;
        return what < 2 ? items.get(item)[what] : now.items[item][what - 2];
    }

    int answer(int item, int right) {
        if (!hasItem(item)) return NONE;
        if (right != 0 && right != 1) return BAD;
        if (!open(now, item)) return ALREADY;
        change();
        give(now, item, right == 1);
        entries.add(new int[] {item, right});
        return mastered(now, items.get(item)[0]) ? 1 : 0;
    }

    int nextDay(int days) {
        if (days < 1 || days > 60) return BAD;
        if (now.day + days > 9999) return FULL;
        change();
        for (int i = 0; i < days; i++) {
            pass(now);
            entries.add(new int[] {-1, 0});
        }
        return now.day;
    }

    private void change() {
        before.add(now.copy());
        if (before.size() > 6) before.remove(0);
    }

    private static int part(long n, long d, int part) {
        BigInteger a = BigInteger.valueOf(n);
        BigInteger b = BigInteger.valueOf(d);
        return (part == 0 ? a : b).divide(a.gcd(b)).intValueExact();
    }

    private int masteryOf(State s, int skill, int part) {
        long[] k = s.skills[skill];
        return part(k[0] + 16, k[0] + k[1] + 32, part);
    }

    int mastery(int skill, int part) {
        if (!hasSkill(skill)) return NONE;
        return part == 0 || part == 1 ? masteryOf(now, skill, part) : BAD;
    }

    int skill(int skill, int what) {
        if (!hasSkill(skill)) return NONE;
        if (what < 0 || what > 8) return BAD;
        if (what < 5) return (int) now.skills[skill][what];
        if (what == 5) return mastered(now, skill) ? 1 : 0;
        if (what == 6) return ready(now, skill) ? 1 : 0;
        if (what == 8) return marks.get(skill);
        int bits = 0;
        for (int i = 0; i < 10; i++) {
            if (needs.get(skill).contains("" + i)) bits += 1 << i;
        }
        return bits;
    }

    private long[] chanceOf(State s, int item) {
        long[] k = s.skills[items.get(item)[0]];
        return new long[] {k[0] + 16, k[0] + k[1] + 32 + 16 * items.get(item)[1]};
    }

    int chance(int item, int what) {
        if (!hasItem(item)) return NONE;
        if (what < 0 || what > 3) return BAD;
        long[] c = chanceOf(now, item);
        return what < 2 ? part(c[0], c[1], what) : part(c[0] * (c[1] - c[0]), c[1] * c[1], what - 2);
    }

    private static int compare(long n, long d, long otherN, long otherD) {
        BigInteger left = BigInteger.valueOf(n).multiply(BigInteger.valueOf(otherD));
        return left.compareTo(BigInteger.valueOf(otherN).multiply(BigInteger.valueOf(d)));
    }

    private int easiest(State s, int skill) {
        for (int difficulty = 0; difficulty < 5; difficulty++) {
            for (int i = 0; i < items.size(); i++) {
                if (items.get(i)[0] == skill && items.get(i)[1] == difficulty && open(s, i)) return i;
            }
        }
        return NONE;
    }

    private List<Integer> dues(State s) {
        List<Integer> result = new ArrayList<>();
        for (int i = 0; i < marks.size(); i++) {
            if (s.skills[i][3] != -1 && s.skills[i][3] <= s.day) result.add(i);
        }
        result.sort((a, b) -> Long.compare(s.skills[a][3], s.skills[b][3]));
        return result;
    }

    private int advised(State s, int way) {
        if (way == 3) {
            for (int w = 0; w < 3; w++) {
                if (advised(s, w) != NONE) return advised(s, w);
            }
            return NONE;
        }
        List<Integer> skills = new ArrayList<>();
        if (way == 0) skills = dues(s);
        if (way == 1) {
            for (int i = 0; i < marks.size(); i++) {
                if (ready(s, i) && !mastered(s, i)) skills.add(i);
            }
            skills.sort((a, b) -> compare(s.skills[a][0] + 16, s.skills[a][0] + s.skills[a][1] + 32,
                    s.skills[b][0] + 16, s.skills[b][0] + s.skills[b][1] + 32));
        }
        for (int skill : skills) {
            if (easiest(s, skill) != NONE) return easiest(s, skill);
        }
        if (way < 2) return NONE;
        List<Integer> all = new ArrayList<>();
        for (int i = 0; i < items.size(); i++) {
            if (open(s, i)) all.add(i);
        }
        all.sort((a, b) -> {
            long[] x = chanceOf(s, a);
            long[] y = chanceOf(s, b);
            return compare(y[0] * (y[1] - y[0]), y[1] * y[1], x[0] * (x[1] - x[0]), x[1] * x[1]);
        });
        return all.isEmpty() ? NONE : all.get(0);
    }

    int advise(int way) {
        return way < 0 || way > 3 ? BAD : advised(now, way);
    }

    int due(int index) {
        List<Integer> all = dues(now);
        return index >= 0 && index < all.size() ? all.get(index) : NONE;
    }

    int path(int index) {
        if (index < 0 || index > 11) return BAD;
        State s = now.copy();
        int item = advised(s, 1);
        for (int i = 0; i < index && item != NONE; i++) {
            give(s, item, true);
            item = advised(s, 1);
        }
        return item;
    }

    int whatIf(int item, int right, int skill, int part) {
        if (!hasItem(item) || !hasSkill(skill)) return NONE;
        if (right < 0 || right > 1 || part < 0 || part > 1) return BAD;
        if (!open(now, item)) return ALREADY;
        State s = now.copy();
        give(s, item, right == 1);
        return masteryOf(s, skill, part);
    }

    int plan(int days, int answers, int what) {
        if (days < 1 || days > 30 || answers < 1 || answers > 12 || what < 0 || what > 2) return BAD;
        State s = now.copy();
        int given = 0;
        for (int day = 1; day <= days; day++) {
            for (int left = answers; left > 0 && advised(s, 3) != NONE; left--) {
                give(s, advised(s, 3), true);
                given++;
            }
            if (day < days) pass(s);
        }
        return what == 0 ? given : what == 1 ? evidence(s) : masteredIn(s);
    }

    private int evidence(State s) {
        int sum = 0;
        for (long[] k : s.skills) sum += (int) (k[0] + k[1]);
        return sum;
    }

    private int masteredIn(State s) {
        int sum = 0;
        for (int i = 0; i < marks.size(); i++) sum += mastered(s, i) ? 1 : 0;
        return sum;
    }

    int account(int skill, int what) {
        if (!hasSkill(skill)) return NONE;
        return what < 0 || what > 3 ? BAD : (int) now.skills[skill][5 + what];
    }

    int lasting(int skill) {
        if (!hasSkill(skill) || !mastered(now, skill)) return NONE;
        State s = now.copy();
        int days = 0;
        pass(s);
        while (days < 200 && mastered(s, skill)) {
            days++;
            pass(s);
        }
        return days;
    }

    int explain(int item) {
        if (!hasItem(item)) return NONE;
        levels = new ArrayList<>();
        int skill = items.get(item)[0];
        if (!open(now, item)) {
            levels.add(new int[] {1, now.day});
        } else if (mastered(now, skill)) {
            levels.add(new int[] {2, skill});
        } else if (ready(now, skill)) {
            int other = advised(now, 1);
            levels.add(new int[] {other == item ? 5 : 4, other});
        } else {
            levels.add(new int[] {3, skill});
            while (!ready(now, skill)) {
                skill = blocks(now, needs.get(skill));
                levels.add(new int[] {6, skill});
            }
        }
        return levels.size();
    }

    int explanation(int level, int what) {
        if (level < 0 || level >= levels.size()) return NONE;
        return what == 0 || what == 1 ? levels.get(level)[what] : BAD;
    }

    // Here the log keeps every entry; those that the document takes off are only hidden.
    int replayed(int skill, int against) {
        if (!hasSkill(skill)) return NONE;
        if (against < 0 || against > 1) return BAD;
        State s = start.copy();
        for (int[] e : entries) {
            if (e[0] == -1) pass(s);
            else give(s, e[0], e[1] == 1);
        }
        return (int) s.skills[skill][against];
    }

    private int hidden() {
        return Math.max(0, entries.size() - 60);
    }

    int logEntry(int index, int what) {
        if (index < 0 || index >= entries.size() - hidden()) return NONE;
        return what == 0 || what == 1 ? entries.get(hidden() + index)[what] : BAD;
    }

    int count(int what) {
        int[] sums = new int[2];
        for (int[] i : now.items) {
            sums[0] += i[0];
            sums[1] += i[1];
        }
        int readies = 0;
        for (int i = 0; i < marks.size(); i++) readies += ready(now, i) ? 1 : 0;
        int[] counts = {marks.size(), items.size(), now.day, sums[0], sums[1], masteredIn(now), readies,
            entries.size() - hidden(), before.size(), text.length(), evidence(now)};
        return what < 0 || what > 10 ? BAD : counts[what];
    }

    int write() {
        List<String> out = new ArrayList<>();
        for (int i = 0; i < marks.size(); i++) {
            out.add(marks.get(i) + (needs.get(i).isEmpty() ? "" : "=" + plain(needs.get(i))));
        }
        written = String.join(";", out);
        return written.length();
    }

    int written(int index) {
        return index >= 0 && index < written.length() ? written.charAt(index) : NONE;
    }

    int undo() {
        if (before.isEmpty()) return NONE;
        now = before.remove(before.size() - 1);
        entries = new ArrayList<>();
        start = now.copy();
        return before.size();
    }

    int save() {
        savedMarks = marks;
        savedNeeds = needs;
        savedItems = new ArrayList<>(items);
        saved = now.copy();
        return now.day;
    }

    int restore() {
        if (saved == null) return NONE;
        marks = savedMarks;
        needs = savedNeeds;
        items = new ArrayList<>(savedItems);
        now = saved.copy();
        begin();
        return now.day;
    }
}
