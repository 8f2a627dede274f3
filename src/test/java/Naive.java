import java.util.ArrayList;
import java.util.Comparator;
import java.util.HashMap;
import java.util.List;
import java.util.Map;
import java.util.TreeSet;
import java.util.function.Predicate;
import java.util.regex.Matcher;
import java.util.regex.Pattern;

/**
 * The document once more, in the plainest way the Java library lets it be said and with nothing taken from the
 * class: sets of numbers, every choice tried, a text judged by a pattern, moves as methods that override.
 */
public final class Naive {
    private static final int[] ABOVE = {-1, 0, 0, 1, 0, 2, 4};

    /** What a shelf holds, if it holds something: elements or a maker. */
    private static final class Thing {
        int sort;
        long[] row;
        int maker;

        boolean isMaker() {
            return row == null;
        }
    }

    private static final class Man {
        int kind;
        int a;
        int want;
        TreeSet<Integer> knows = new TreeSet<>();
        TreeSet<Integer> kin = new TreeSet<>();
        String place = "home";

        Man again() {
            Man m = new Man();
            m.kind = kind;
            m.a = a;
            m.want = want;
            m.knows.addAll(knows);
            m.kin.addAll(kin);
            m.place = place;
            return m;
        }
    }

    private static final class World {
        List<Man> men = new ArrayList<>();
        int parts = 4;
        int fear = 0;
        int purse = 100;
        int months = 0;
        int seed = 1;

        World again() {
            World w = new World();
            for (Man m : men) {
                w.men.add(m.again());
            }
            w.parts = parts;
            w.fear = fear;
            w.purse = purse;
            w.months = months;
            w.seed = seed;
            return w;
        }

        boolean is(int m, String place) {
            return m >= 0 && m < men.size() && men.get(m).place.equals(place);
        }

        TreeSet<Integer> all(Predicate<Man> which) {
            TreeSet<Integer> s = new TreeSet<>();
            for (int m = 0; m < men.size(); m++) {
                if (which.test(men.get(m))) {
                    s.add(m);
                }
            }
            return s;
        }

        TreeSet<Integer> at(String place) {
            return all(m -> m.place.equals(place));
        }

        TreeSet<Integer> known(TreeSet<Integer> those) {
            TreeSet<Integer> s = new TreeSet<>();
            for (int m : those) {
                s.addAll(men.get(m).knows);
            }
            return s;
        }

        boolean made(TreeSet<Integer> those) {
            return known(those).size() == parts;
        }

        int kinHome(Man m) {
            int n = 0;
            for (int l : m.kin) {
                n += is(l, "home") ? 1 : 0;
            }
            return n;
        }

        int price(int number) {
            Man m = men.get(number);
            if (m.kind == 5) {
                return m.a;
            }
            int p = m.kind == 2 ? m.want / 2 : m.want;
            if (under(m.kind, 4)) {
                p = Math.max(0, p - m.a);
            }
            p += m.kind == 6 ? fear / 2 : fear;
            if (under(m.kind, 1)) {
                p += 5 * kinHome(m);
            }
            if (m.kind == 3) {
                p += 3 * m.a;
            }
            return p;
        }

        int prices(TreeSet<Integer> those) {
            int sum = 0;
            for (int m : those) {
                sum += price(m);
            }
            return sum;
        }

        int draw(int n) {
            seed = seed * 1103515245 + 12345;
            return ((seed >> 16) & 0xFFFF) % n;
        }

        int write() {
            int came = 0;
            for (Man m : men) {
                if (m.place.equals("abroad") && (kinHome(m) > 0 || under(m.kind, 2)) && draw(100) < fear) {
                    m.place = "home";
                    came++;
                }
            }
            return came;
        }

        int month() {
            TreeSet<Integer> heard = known(at("abroad"));
            int came = 0;
            for (int number : at("abroad")) {
                Man m = men.get(number);
                if (under(m.kind, 2)) {
                    m.place = "home";
                    m.knows.addAll(heard);
                    came++;
                }
            }
            fear = Math.max(0, fear - 1);
            months++;
            return came;
        }

        boolean shut(int m) {
            return change(m, "home", "shut", 5);
        }

        boolean kill(int m) {
            return change(m, "abroad", "dead", 10);
        }

        boolean free(int m) {
            return change(m, "shut", "home", -5);
        }

        private boolean change(int m, String from, String to, int more) {
            if (!is(m, from)) {
                return false;
            }
            men.get(m).place = to;
            fear = Math.min(99, Math.max(0, fear + more));
            return true;
        }

        boolean buy(int m) {
            if (!is(m, "home") || price(m) > purse) {
                return false;
            }
            purse -= price(m);
            men.get(m).place = "abroad";
            return true;
        }
    }

    private static boolean under(int kind, int other) {
        return kind == other || (kind != 0 && under(ABOVE[kind], other));
    }

    private static int bits(TreeSet<Integer> s) {
        int b = 0;
        for (int m : s) {
            b += 1 << m;
        }
        return b;
    }

    private static TreeSet<Integer> set(int bits) {
        TreeSet<Integer> s = new TreeSet<>();
        for (int i = 0; i < 8; i++) {
            if ((bits >> i & 1) == 1) {
                s.add(i);
            }
        }
        return s;
    }

    private static TreeSet<Integer> both(TreeSet<Integer> a, TreeSet<Integer> b) {
        TreeSet<Integer> s = new TreeSet<>(a);
        s.addAll(b);
        return s;
    }

    private static List<TreeSet<Integer>> subsets(TreeSet<Integer> those) {
        List<TreeSet<Integer>> all = new ArrayList<>();
        for (int b = 0; b < 256; b++) {
            if (those.containsAll(set(b))) {
                all.add(set(b));
            }
        }
        return all;
    }

    private final Thing[] shelves = new Thing[8];
    private World now = new World();
    private World image = null;
    private int fault = -1;
    private final Map<Integer, Integer> refused = new HashMap<>();
    private final List<Integer> ran = new ArrayList<>();

    private int no(int number) {
        refused.merge(number, 1, Integer::sum);
        return number;
    }

    private boolean shelf(int s) {
        return 0 <= s && s <= 7;
    }

    private boolean man(int m) {
        return 0 <= m && m < now.men.size();
    }

    private int num(int s, int i) {
        return (int) shelves[s].row[i];
    }

    private int rowNo(int... ss) {
        for (int s : ss) {
            if (!shelf(s)) {
                return -1;
            }
        }
        for (int s : ss) {
            if (shelves[s] != null && shelves[s].isMaker()) {
                return -2;
            }
        }
        for (int s : ss) {
            if (shelves[s] == null) {
                return -3;
            }
        }
        return 0;
    }

    private int firstNo(int n, int... ss) {
        int no = rowNo(ss);
        if (no != 0) {
            return no;
        }
        if (n < 0) {
            return -4;
        }
        for (int s : ss) {
            if (shelves[s].row.length < n) {
                return -5;
            }
        }
        return 0;
    }

    public int row(int s, int sort, int n) {
        if (!shelf(s)) {
            return no(-1);
        }
        if (n < 0) {
            return no(-4);
        }
        if (sort < 0 || sort > 3) {
            return no(-6);
        }
        if (n > 160) {
            return no(-7);
        }
        shelves[s] = new Thing();
        shelves[s].sort = sort;
        shelves[s].row = new long[n];
        return 1;
    }

    public int set(int s, int i, long v) {
        int no = rowNo(s);
        if (no == 0 && (i < 0 || i >= shelves[s].row.length)) {
            no = -5;
        }
        if (no != 0) {
            return no(no);
        }
        int cut = 64 - (8 << shelves[s].sort);
        shelves[s].row[i] = v << cut >> cut;
        return 1;
    }

    public int copy(int p, int q, int i, int j, int n) {
        if (!shelf(p) || !shelf(q)) {
            return no(-1);
        }
        Thing a = shelves[p];
        Thing b = shelves[q];
        if (a != null && a.isMaker() || b != null && b.isMaker() || a != null && b != null && a.sort != b.sort) {
            return no(-2);
        }
        if (a == null || b == null) {
            return no(-3);
        }
        if (n < 0) {
            return no(-4);
        }
        if (i < 0 || j < 0 || (long) i + n > a.row.length || (long) j + n > b.row.length) {
            return no(-5);
        }
        long[] ahead = a.row.clone();
        for (int k = 0; k < n; k++) {
            b.row[j + k] = ahead[i + k];
        }
        return 1;
    }

    public long element(int s, int i) {
        return rowNo(s) == 0 && i >= 0 && i < shelves[s].row.length ? shelves[s].row[i] : 0;
    }

    public int show(int s, int maker) {
        if (!shelf(s) || maker != -1 && !man(maker)) {
            return no(-1);
        }
        shelves[s] = null;
        if (maker == -1) {
            return 0;
        }
        shelves[s] = new Thing();
        shelves[s].maker = maker;
        return 1;
    }

    public int holds(int s) {
        if (!shelf(s) || shelves[s] == null) {
            return -1;
        }
        return shelves[s].isMaker() ? shelves[s].maker : 100 + shelves[s].sort;
    }

    public int says(int s, int kind) {
        if (!shelf(s) || kind < 0 || kind > 6) {
            return no(-1);
        }
        if (shelves[s] == null) {
            return no(-3);
        }
        if (!shelves[s].isMaker() || !under(now.men.get(shelves[s].maker).kind, kind)) {
            return no(-2);
        }
        Man m = now.men.get(shelves[s].maker);
        switch (kind) {
            case 0:
                return m.want;
            case 1:
            case 3:
                return now.kinHome(m);
            case 2:
            case 5:
                return m.place.equals("abroad") ? 1 : 0;
            default:
                return now.price(shelves[s].maker);
        }
    }

    public int maker(int kind, int a, int want) {
        if (kind < 0 || kind > 6) {
            return no(-1);
        }
        if (a < 0 || a > 9 || want < 0 || want > 99) {
            return no(-6);
        }
        if (now.men.size() == 8) {
            return no(-7);
        }
        Man m = new Man();
        m.kind = kind;
        m.a = a;
        m.want = want;
        now.men.add(m);
        return now.men.size() - 1;
    }

    public int parts(int n) {
        if (n < 1 || n > 8 || n < now.parts) {
            return no(-6);
        }
        int was = now.parts;
        now.parts = n;
        return was;
    }

    public int knows(int maker, int part, boolean is) {
        if (!man(maker)) {
            return no(-1);
        }
        if (part < 0 || part >= now.parts) {
            return no(-6);
        }
        TreeSet<Integer> s = now.men.get(maker).knows;
        return (is ? !s.add(part) : s.remove(part)) ? 1 : 0;
    }

    public int kin(int maker, int other, boolean are) {
        if (!man(maker) || !man(other)) {
            return no(-1);
        }
        if (maker == other) {
            return no(-6);
        }
        TreeSet<Integer> a = now.men.get(maker).kin;
        TreeSet<Integer> b = now.men.get(other).kin;
        int were = a.contains(other) ? 1 : 0;
        if (are) {
            a.add(other);
            b.add(maker);
        } else {
            a.remove(other);
            b.remove(maker);
        }
        return were;
    }

    public int ask(int what, int v) {
        if (what < 0 || what > 1 || v < 0 || v > (what == 0 ? 99 : 9999)) {
            return no(-6);
        }
        int was = what == 0 ? now.fear : now.purse;
        if (what == 0) {
            now.fear = v;
        } else {
            now.purse = v;
        }
        return was;
    }

    public int makerOf(int maker, int what) {
        if (!man(maker) || what < 0 || what > 6) {
            return no(-5);
        }
        Man m = now.men.get(maker);
        int place = List.of("home", "abroad", "shut", "dead").indexOf(m.place);
        int[] all = {m.kind, m.a, m.want, bits(m.knows), bits(m.kin), place, now.price(maker)};
        return all[what];
    }

    private static final String NUM = "[0-9]{1,4}";
    private static final String ITEM = "(parts N|maker N N N|knows N N|kin N N|fear N|purse N|goes N|dies N)"
            .replace("N", NUM);
    private static final Pattern TEXT = Pattern.compile(ITEM + "(;" + ITEM + ")*");
    private static final Pattern TOKEN = Pattern.compile("(parts|maker|knows|kin|fear|purse|goes|dies)|[0-9]+");

    public int island(int s) {
        int no = rowNo(s);
        if (no != 0) {
            return no(no);
        }
        StringBuilder b = new StringBuilder();
        for (int i = 0; i < shelves[s].row.length; i++) {
            int c = num(s, i);
            b.append(c > 0 && c < 127 ? (char) c : '?');
        }
        World then = now.again();
        int[] items = new int[1];
        fault = textFault(b.toString(), then, items);
        if (fault != -1) {
            return no(-6);
        }
        now = then;
        return items[0];
    }

    private int textFault(String text, World then, int[] items) {
        int good = 0;
        while (good < text.length()) {
            Matcher m = TEXT.matcher(text.substring(0, good + 1));
            if (!m.matches() && !m.hitEnd()) {
                break;
            }
            good++;
        }
        int told = tell(text.substring(0, good), then, items);
        if (told != -1) {
            return told;
        }
        return TEXT.matcher(text).matches() ? -1 : good;
    }

    /** Does what a text tells as far as it goes: the place of what may not be, or -1. */
    private int tell(String text, World w, int[] items) {
        String word = "";
        List<Integer> v = new ArrayList<>();
        Matcher t = TOKEN.matcher(text);
        while (t.find()) {
            if (t.group(1) != null) {
                word = t.group(1);
                v.clear();
                items[0]++;
                if (word.equals("maker") && w.men.size() == 8) {
                    return t.start();
                }
            } else {
                v.add(Integer.parseInt(t.group()));
                if (!may(word, v, w)) {
                    return t.start();
                }
                pass(word, v, w);
            }
        }
        return -1;
    }

    private boolean may(String word, List<Integer> v, World w) {
        int last = v.get(v.size() - 1);
        boolean first = v.size() == 1;
        boolean man = last < w.men.size();
        switch (word) {
            case "parts":
                return last >= w.parts && last <= 8;
            case "maker":
                return last <= (first ? 6 : v.size() == 2 ? 9 : 99);
            case "knows":
                return first ? man : last < w.parts;
            case "kin":
                return man && (first || last != v.get(0));
            case "fear":
                return last <= 99;
            case "purse":
                return last <= 9999;
            case "goes":
                return man && w.is(last, "home");
            default:
                return man && !w.is(last, "dead");
        }
    }

    private void pass(String word, List<Integer> v, World w) {
        int last = v.get(v.size() - 1);
        if (word.equals("parts")) {
            w.parts = last;
        } else if (word.equals("maker") && v.size() == 3) {
            Man m = new Man();
            m.kind = v.get(0);
            m.a = v.get(1);
            m.want = last;
            w.men.add(m);
        } else if (word.equals("knows") && v.size() == 2) {
            w.men.get(v.get(0)).knows.add(last);
        } else if (word.equals("kin") && v.size() == 2) {
            w.men.get(v.get(0)).kin.add(last);
            w.men.get(last).kin.add(v.get(0));
        } else if (word.equals("fear")) {
            w.fear = last;
        } else if (word.equals("purse")) {
            w.purse = last;
        } else if (word.equals("goes")) {
            w.men.get(last).place = "abroad";
        } else if (word.equals("dies")) {
            w.men.get(last).place = "dead";
        }
    }

    public int fault() {
        return fault;
    }

    public int abroad(int what) {
        if (what < 0 || what > 1) {
            return no(-5);
        }
        TreeSet<Integer> known = now.known(now.at("abroad"));
        return what == 0 ? (known.size() == now.parts ? 1 : 0) : (1 << now.parts) - 1 - bits(known);
    }

    private static TreeSet<Integer> best(World w, Comparator<TreeSet<Integer>> order) {
        List<TreeSet<Integer>> makers = new ArrayList<>();
        for (TreeSet<Integer> s : subsets(w.at("home"))) {
            if (w.made(both(s, w.at("abroad")))) {
                makers.add(s);
            }
        }
        makers.sort(order.thenComparing(s -> bits(s)));
        return makers.isEmpty() ? null : makers.get(0);
    }

    public int fewest() {
        TreeSet<Integer> s = best(now, Comparator.comparing(x -> x.size()));
        return s == null ? -1 : bits(s);
    }

    public int cheapest(int what) {
        if (what < 0 || what > 2) {
            return no(-5) - 10;
        }
        TreeSet<Integer> s = best(now, Comparator.comparing(x -> now.prices(x)));
        if (what == 2) {
            return s != null && now.prices(s) <= now.purse ? 1 : 0;
        }
        return s == null ? -1 : what == 0 ? bits(s) : now.prices(s);
    }

    public int alone(int what) {
        if (what < 0 || what > 1) {
            return no(-5) - 10;
        }
        TreeSet<Integer> parts = new TreeSet<>();
        for (int p = 0; p < now.parts; p++) {
            int part = p;
            if (now.all(m -> !m.place.equals("dead") && m.knows.contains(part)).size() == 1) {
                parts.add(p);
            }
        }
        if (what == 0) {
            return bits(parts);
        }
        int most = 0;
        int key = -1;
        for (int m : now.all(x -> !x.place.equals("dead"))) {
            TreeSet<Integer> his = new TreeSet<>(now.men.get(m).knows);
            his.retainAll(parts);
            if (his.size() > most) {
                most = his.size();
                key = m;
            }
        }
        return key;
    }

    private boolean still(int k) {
        TreeSet<Integer> home = now.at("home");
        if (home.size() < k) {
            return false;
        }
        for (TreeSet<Integer> away : subsets(home)) {
            TreeSet<Integer> rest = new TreeSet<>(home);
            rest.removeAll(away);
            if (away.size() == k && !now.made(rest)) {
                return false;
            }
        }
        return true;
    }

    public int without(int k) {
        return k < 0 || k > 8 ? no(-6) : still(k) ? 1 : 0;
    }

    public int sold(int k) {
        if (k < 1 || k > 8) {
            return no(-6);
        }
        for (TreeSet<Integer> s : subsets(now.all(m -> !m.place.equals("dead")))) {
            if (s.size() <= k && now.made(s)) {
                return 1;
            }
        }
        return 0;
    }

    public int stands() {
        int k = 8;
        while (k >= 0 && !still(k)) {
            k--;
        }
        return k;
    }

    public int lessons(int k) {
        if (k < 0 || k > 8) {
            return no(-6) - 10;
        }
        if (now.at("home").size() < k + 1) {
            return -1;
        }
        int lessons = 0;
        for (int p = 0; p < now.parts; p++) {
            int part = p;
            int n = now.all(m -> m.place.equals("home") && m.knows.contains(part)).size();
            if (n == 0) {
                return -1;
            }
            for (; n < k + 1; n++) {
                lessons++;
            }
        }
        return lessons;
    }

    public int offer(int b) {
        if (b < 0 || b > 999) {
            return no(-6);
        }
        TreeSet<Integer> s = now.at("home");
        s.removeIf(m -> now.price(m) > b);
        return bits(s);
    }

    public int spend() {
        List<TreeSet<Integer>> all = subsets(now.at("home"));
        all.removeIf(s -> now.prices(s) > now.purse);
        Comparator<TreeSet<Integer>> most = Comparator.comparing(s -> -now.known(both(s, now.at("abroad"))).size());
        all.sort(most.thenComparing(s -> now.prices(s)).thenComparing(s -> bits(s)));
        return bits(all.get(0));
    }

    private static int costs(World w) {
        TreeSet<Integer> s = best(w, Comparator.comparing(x -> w.prices(x)));
        return s == null || w.prices(s) > w.purse ? 10000 : w.prices(s);
    }

    /** The best moves, with what it costs then at the end; null if none can be. */
    private static List<Integer> bestMoves(World w, int m) {
        if (m == 0) {
            return new ArrayList<>(List.of(costs(w)));
        }
        List<Integer> best = null;
        for (int move = 0; move < 28; move++) {
            World then = w.again();
            if (move == 0 || move >= 10 && move < 20 && then.shut(move - 10) || move >= 20 && then.kill(move - 20)) {
                List<Integer> rest = bestMoves(then, m - 1);
                if (best == null || rest.get(m - 1) > best.get(m)) {
                    best = rest;
                    best.add(0, move);
                }
            }
        }
        return best;
    }

    public int council(int m, int i) {
        if (m < 0 || m > 2) {
            return no(-6);
        }
        if (i < -1 || i >= m) {
            return no(-5);
        }
        List<Integer> moves = bestMoves(now, m);
        return moves.get(i == -1 ? m : i);
    }

    private TreeSet<Integer> told(int s, int n, int key) {
        TreeSet<Integer> parts = new TreeSet<>();
        for (int i = 0; i < n; i++) {
            parts.add((num(s, i) + key) % 8);
        }
        parts.removeIf(p -> p >= now.parts);
        return parts;
    }

    private boolean words(int s, int n) {
        for (int i = 0; i < n; i++) {
            if (num(s, i) < 0 || num(s, i) > 7) {
                return false;
            }
        }
        return n <= 40;
    }

    public int letter(int s, int n, int key) {
        int no = firstNo(n, s);
        if (no == 0 && (key < 0 || key > 7 || !words(s, n))) {
            no = -6;
        }
        return no != 0 ? no(no) : bits(told(s, n, key));
    }

    public int keys(int s, int n, int set) {
        int no = firstNo(n, s);
        if (no == 0 && (set < 0 || set >= 1 << now.parts || !words(s, n))) {
            no = -6;
        }
        if (no != 0) {
            return no(no);
        }
        TreeSet<Integer> keys = set(255);
        keys.removeIf(k -> bits(told(s, n, k)) != set);
        return bits(keys);
    }

    public int tries(int s, int i) {
        int no = rowNo(s);
        if (no == 0 && (shelves[s].row.length < now.parts || i < -1 || i >= now.parts)) {
            no = -5;
        }
        long all = 0;
        List<Integer> order = new ArrayList<>();
        if (no == 0) {
            for (int p = 0; p < now.parts; p++) {
                no = num(s, p) < 0 || num(s, p) > 99 ? -6 : no;
                all += num(s, p);
                order.add(p);
            }
            no = all == 0 ? -6 : no;
        }
        if (no != 0) {
            return no(no);
        }
        order.sort(Comparator.comparing(p -> -num(s, p)));
        long sum = 0;
        for (int p = 0; p < now.parts; p++) {
            sum += (p + 1L) * num(s, order.get(p));
        }
        return i == -1 ? (int) (sum * 1000 / all) : order.get(i);
    }

    public int who(int s, int t, int n) {
        int no = firstNo(n, s, t);
        if (no == 0 && (n < 1 || n > 40)) {
            no = -6;
        }
        for (int i = 0; no == 0 && i < n; i++) {
            no = num(s, i) < 0 || num(s, i) >= 1 << now.men.size() ? -6 : 0;
        }
        if (no != 0) {
            return no(no);
        }
        TreeSet<Integer> people = now.all(m -> true);
        for (int i = 0; i < n; i++) {
            TreeSet<Integer> those = set(num(s, i));
            boolean made = num(t, i) != 0;
            people.removeIf(m -> those.contains(m) != made);
        }
        return bits(people);
    }

    private static boolean comes(World w, int v) {
        if (v == 0) {
            w.month();
            return true;
        }
        for (int m = 0; m < 8; m++) {
            if (v == 100 + m) {
                return w.buy(m);
            }
            if (v == 200 + m) {
                return w.shut(m);
            }
            if (v == 300 + m) {
                return w.kill(m);
            }
            if (v == 400 + m) {
                return w.free(m);
            }
        }
        return false;
    }

    private int monthsNo(int s, int n) {
        int no = firstNo(n, s);
        return no == 0 && n > 40 ? -6 : no;
    }

    private int wrong(World w, int s, int n) {
        for (int i = 0; i < n; i++) {
            if (!comes(w, num(s, i))) {
                return i;
            }
        }
        return -1;
    }

    public int judge(int s, int n) {
        int no = monthsNo(s, n);
        return no != 0 ? no(no) - 10 : wrong(now.again(), s, n);
    }

    public int behind(int s, int n, int what) {
        int no = monthsNo(s, n);
        if ((no == 0 || no == -6) && (what < 0 || what > 2)) {
            no = -5;
        }
        World w = now.again();
        if (no == 0 && wrong(w, s, n) != -1) {
            no = -6;
        }
        if (no != 0) {
            return no(no);
        }
        return what == 0 ? (w.made(w.at("abroad")) ? 1 : 0) : what == 1 ? w.purse : w.fear;
    }

    public int done(int s, int n) {
        int no = monthsNo(s, n);
        World w = now.again();
        if (no == 0 && wrong(w, s, n) != -1) {
            no = -6;
        }
        if (no != 0) {
            return no(no);
        }
        now = w;
        return now.months;
    }

    public int bid(int maker, int b) {
        if (!man(maker)) {
            return no(-1);
        }
        if (b < 0 || b > now.purse || !now.is(maker, "home")) {
            return no(-6);
        }
        if (b < now.price(maker)) {
            return 0;
        }
        now.purse -= b;
        now.men.get(maker).place = "abroad";
        return 1;
    }

    public int deed(int maker, int what) {
        if (!man(maker)) {
            return no(-1);
        }
        if (what < 0 || what > 2) {
            return no(-5);
        }
        boolean can = what == 0 ? now.shut(maker) : what == 1 ? now.kill(maker) : now.free(maker);
        return can ? now.fear : no(-6);
    }

    public int write() {
        return now.write();
    }

    public int month() {
        return now.month();
    }

    public int years(int n) {
        if (now.men.isEmpty()) {
            return no(-5);
        }
        if (n < 1 || n > 240) {
            return no(-6);
        }
        int made = 0;
        for (int i = 0; i < n; i++) {
            switch (now.draw(4)) {
                case 0:
                    now.buy(now.draw(now.men.size()));
                    break;
                case 1:
                    now.write();
                    break;
                case 2:
                    now.kill(now.draw(now.men.size()));
                    break;
                default:
                    break;
            }
            now.month();
            made += now.made(now.at("abroad")) ? 1 : 0;
        }
        return made;
    }

    public int seed(int v) {
        int was = now.seed;
        now.seed = v;
        return was;
    }

    private class Maker {
        int m;
        int k;

        int blows(int x) {
            ran.add(10);
            return x + m;
        }

        int sells(int x) {
            ran.add(11);
            return blows(x) * 2;
        }

        int hides(int x) {
            ran.add(12);
            return sells(x) ^ blows(x - k);
        }
    }

    private class Husband extends Maker {
        @Override
        int blows(int x) {
            ran.add(20);
            return super.blows(x) + k;
        }
    }

    private class Double extends Maker {
        @Override
        int sells(int x) {
            ran.add(30);
            return super.sells(x) * 3;
        }
    }

    private final class Father extends Husband {
        @Override
        int sells(int x) {
            ran.add(40);
            return super.sells(x + 1);
        }
    }

    private class Foundling extends Maker {
        @Override
        int hides(int x) {
            ran.add(50);
            return -super.hides(x);
        }

        @Override
        int blows(int x) {
            ran.add(51);
            return super.blows(x) - m;
        }
    }

    private final class Spy extends Double {
        @Override
        int hides(int x) {
            ran.add(60);
            return super.hides(x) ^ 5;
        }
    }

    private final class Boy extends Foundling {
        @Override
        int blows(int x) {
            ran.add(70);
            return super.blows(x) * 2;
        }

        @Override
        int sells(int x) {
            ran.add(71);
            return super.sells(x - k);
        }
    }

    public int act(int maker, int move, int x) {
        ran.clear();
        if (!man(maker) || move < 0 || move > 2) {
            return 0;
        }
        Maker[] kinds = {new Maker(), new Husband(), new Double(), new Father(), new Foundling(), new Spy(), new Boy()};
        Maker who = kinds[now.men.get(maker).kind];
        who.m = maker;
        who.k = now.men.get(maker).a;
        return move == 0 ? who.blows(x) : move == 1 ? who.sells(x) : who.hides(x);
    }

    public int trace(int i) {
        return i >= 0 && i < ran.size() && i < 20 ? ran.get(i) : -1;
    }

    public int image() {
        image = now.again();
        return now.men.size();
    }

    public int restore() {
        if (image == null) {
            return no(-6);
        }
        now = image.again();
        for (int s = 0; s < 8; s++) {
            if (shelves[s] != null && shelves[s].isMaker() && !man(shelves[s].maker)) {
                shelves[s] = null;
            }
        }
        return now.men.size();
    }

    public int status(int what) {
        if (what >= 11 && what <= 17) {
            return refused.getOrDefault(10 - what, 0);
        }
        switch (what) {
            case 0:
                return now.men.size();
            case 1:
                return now.parts;
            case 2:
                return now.at("home").size();
            case 3:
                return now.at("abroad").size();
            case 4:
                return now.at("dead").size();
            case 5:
                return now.fear;
            case 6:
                return now.purse;
            case 7:
                return now.months;
            case 8:
                return now.seed;
            case 9:
                return ran.size();
            default:
                return -1;
        }
    }
}
