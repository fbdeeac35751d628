import java.util.ArrayDeque;
import java.util.ArrayList;
import java.util.Arrays;
import java.util.Deque;
import java.util.HashSet;
import java.util.List;
import java.util.Set;
import java.util.TreeSet;
import java.util.regex.Matcher;
import java.util.regex.Pattern;

/**
 * The document told once more, as slowly and as plainly as it can be: every pairing and every tree
 * is gone through, what is kept is copied. RandomRunsTest holds CallSigns against it.
 */
public final class Model {
    static final int BAD = -1, NO = -2, FULL = -3, NONE = -4;

    record Call(int from, int to, int hour, int minutes, int wave, int pause) {
        int day() { return hour / 24; }
    }

    record Bearing(int hearer, int name, int day, int u, int v, int w) { }

    record Listened(int wave, int a, int b) { }

    record Kept(List<Call> calls, List<Bearing> bearings, List<Listened> listened, List<Integer> events) { }

    private List<Call> calls = new ArrayList<>();
    private List<Bearing> bearings = new ArrayList<>();
    private List<Listened> listened = new ArrayList<>();
    private List<Integer> events = new ArrayList<>();
    private final Deque<Kept> kept = new ArrayDeque<>();
    private String text = "";
    private String taken = "";
    private int t = 3;
    private int h = 2;
    private final int[][] hearers = new int[4][2];

    private static boolean out(int value, int least, int most) { return value < least || value > most; }

    private static boolean badDays(int d, int e) { return out(d, 0, 19) || out(e, 0, 19) || d > e; }

    // ---- calls, book

    public int call(int from, int to, int hour, int minutes, int wave, int pause) {
        if (out(from, 0, 11) || out(to, 0, 11) || from == to || out(hour, 0, 479) || out(minutes, 1, 99)
                || out(wave, 0, 7) || out(pause, 0, 99)) return BAD;
        if (calls.size() == 60) return FULL;
        calls.add(new Call(from, to, hour, minutes, wave, pause));
        return calls.size() - 1;
    }

    public int write(int n, long v) {
        if (out(n, 1, 8)) return BAD;
        if (text.length() + n > 200) return FULL;
        StringBuilder more = new StringBuilder();
        for (int i = 0; i < n; i++) {
            more.insert(0, (char) (v & 255));
            v >>= 8;
        }
        text += more;
        return text.length();
    }

    public int wipe() {
        int was = text.length();
        text = "";
        return was;
    }

    private static final Pattern P = Pattern.compile("p([0-9]{1,3}),([0-9]{1,3});");
    private static final Pattern K = Pattern.compile("k([0-9]{1,3}),([0-9]{1,3});");
    private static final Pattern X = Pattern.compile("x([0-9]{1,3}),([0-9]{1,3}),([0-9]{1,3});");

    record Item(char letter, int[] n) { }

    /** All items of a text up to its first fault; the fault's place is put into faultAt[0]. */
    private static List<Item> items(String text, int[] faultAt) {
        List<Item> found = new ArrayList<>();
        Set<Integer> ps = new HashSet<>();
        Set<Integer> ns = new HashSet<>();
        faultAt[0] = NONE;
        int at = 0;
        while (at < text.length()) {
            Item item = null;
            int end = at;
            for (Pattern pattern : List.of(P, K, X)) {
                Matcher m = pattern.matcher(text).region(at, text.length());
                if (m.lookingAt()) {
                    int[] n = new int[m.groupCount()];
                    for (int i = 0; i < n.length; i++) n[i] = Integer.parseInt(m.group(i + 1));
                    item = new Item(text.charAt(at), n);
                    end = m.end();
                }
            }
            if (item == null || !inRange(item) || (item.letter == 'p' && !(ps.add(item.n[0]) & ns.add(item.n[1])))) {
                faultAt[0] = at;
                return found;
            }
            found.add(item);
            at = end;
        }
        return found;
    }

    private static boolean inRange(Item item) {
        int[] n = item.n;
        return switch (item.letter) {
            case 'p' -> n[0] <= 11 && n[1] <= 11;
            case 'k' -> n[0] <= 11 && n[1] >= 1 && n[1] <= 19;
            default -> n[0] <= 11 && n[1] <= 11 && n[0] != n[1] && n[2] >= 1 && n[2] <= 19;
        };
    }

    public int fault() {
        int[] faultAt = new int[1];
        items(text, faultAt);
        return faultAt[0];
    }

    public int take() {
        if (fault() != NONE) return NO;
        taken = text;
        return items(taken, new int[1]).size();
    }

    public int name(int post, int day) {
        if (out(post, 0, 11) || out(day, 0, 19)) return BAD;
        List<Item> items = items(taken, new int[1]);
        int name = NONE;
        for (Item item : items) if (item.letter == 'p' && item.n[0] == post) name = item.n[1];
        if (name == NONE) return NONE;
        for (int m = 1; m <= day; m++) {
            int k = 0;
            for (Item item : items) if (item.letter == 'k' && item.n[1] <= m) k = item.n[0];
            name += k;
            if (name >= 12) name -= 12;
            for (Item item : items) {
                if (item.letter == 'x' && item.n[2] == m) {
                    if (name == item.n[0]) name = item.n[1];
                    else if (name == item.n[1]) name = item.n[0];
                }
            }
        }
        return name;
    }

    public int post(int name, int day) {
        if (out(name, 0, 11) || out(day, 0, 19)) return BAD;
        for (int post = 0; post < 12; post++) if (name(post, day) == name) return post;
        return NONE;
    }

    // ---- hands, names

    public int apart(int t) {
        if (out(t, 0, 99)) return BAD;
        int was = this.t;
        this.t = t;
        return was;
    }

    public int hand(int call) {
        if (out(call, 0, calls.size() - 1)) return BAD;
        TreeSet<Integer> group = new TreeSet<>(List.of(call));
        Deque<Integer> toLookAt = new ArrayDeque<>(group);
        while (!toLookAt.isEmpty()) {
            int pause = calls.get(toLookAt.pop()).pause;
            for (int i = 0; i < calls.size(); i++) {
                if (Math.abs(calls.get(i).pause - pause) <= t && group.add(i)) toLookAt.push(i);
            }
        }
        return group.first();
    }

    public int hands() {
        Set<Integer> all = new HashSet<>();
        for (int i = 0; i < calls.size(); i++) all.add(hand(i));
        return all.size();
    }

    public int odds(int a, int b, int what) {
        if (out(a, 0, calls.size() - 1) || out(b, 0, calls.size() - 1) || a == b || out(what, 0, 1)) return BAD;
        int apart = Math.abs(calls.get(a).pause - calls.get(b).pause);
        int all = 0;
        int close = 0;
        for (int i = 0; i < calls.size(); i++) {
            for (int j = 0; j < i; j++) {
                all++;
                if (Math.abs(calls.get(i).pause - calls.get(j).pause) <= apart) close++;
            }
        }
        return what == 0 ? close : all;
    }

    private List<Integer> senders(int day) {
        TreeSet<Integer> names = new TreeSet<>();
        for (Call c : calls) if (c.day() == day) names.add(c.from);
        return new ArrayList<>(names);
    }

    private int[] handsOfAll() {
        int[] hands = new int[calls.size()];
        for (int i = 0; i < hands.length; i++) hands[i] = hand(i);
        return hands;
    }

    private Set<Integer> traits(int[] hands, int day, int name, int kind) {
        Set<Integer> found = new HashSet<>();
        for (int i = 0; i < calls.size(); i++) {
            Call c = calls.get(i);
            if (c.day() == day && c.from == name) {
                found.add(kind == 3 ? hands[i] : kind == 2 ? c.wave : c.hour % 24);
            }
        }
        return found;
    }

    private int likeOf(int[] hands, int day, int a, int b) {
        int like = 0;
        for (int kind = 1; kind <= 3; kind++) {
            Set<Integer> both = traits(hands, day, a, kind);
            both.retainAll(traits(hands, day + 1, b, kind));
            like += kind * both.size();
        }
        return like;
    }

    public int like(int day, int a, int b) {
        if (out(day, 0, 18) || out(a, 0, 11) || out(b, 0, 11)) return BAD;
        if (!senders(day).contains(a) || !senders(day + 1).contains(b)) return NONE;
        return likeOf(handsOfAll(), day, a, b);
    }

    /** One midnight: all pairings are gone through; the first of the greatest sum, and what all such share. */
    private final class Midnight {
        final List<Integer> left;
        final List<Integer> right;
        final int[][] like;
        final int[] now;
        int best = -1;
        int[] first = {};
        boolean[] alike = {};

        Midnight(int day) {
            left = senders(day);
            right = senders(day + 1);
            like = new int[left.size()][right.size()];
            now = new int[left.size()];
            if (isNo()) return;
            int[] hands = handsOfAll();
            for (int i = 0; i < left.size(); i++) {
                for (int j = 0; j < right.size(); j++) like[i][j] = likeOf(hands, day, left.get(i), right.get(j));
            }
            all(0, 0, 0);
        }

        boolean isNo() { return left.size() > 8 || right.size() > 8; }

        // Pairings come in the document's order: the lower NAMES first, none behind them.
        private void all(int i, int used, int sum) {
            if (i == left.size()) {
                if (sum > best) {
                    best = sum;
                    first = now.clone();
                    alike = new boolean[first.length];
                    Arrays.fill(alike, true);
                }
                for (int n = 0; n < now.length && sum == best; n++) alike[n] &= now[n] == first[n];
                return;
            }
            for (int j = 0; j < right.size(); j++) {
                if (like[i][j] > 0 && (used & 1 << j) == 0) {
                    now[i] = right.get(j);
                    all(i + 1, used | 1 << j, sum + like[i][j]);
                }
            }
            now[i] = 12;
            all(i + 1, used, sum);
        }

        int becomes(int name) {
            int i = left.indexOf(name);
            return i < 0 || first[i] == 12 ? NONE : first[i];
        }

        boolean sure(int name) {
            return becomes(name) != NONE && alike[left.indexOf(name)];
        }
    }

    public int follow(int day, int name, int what) {
        if (out(day, 0, 18) || out(name, 0, 11) || out(what, 0, 1)) return BAD;
        Midnight m = new Midnight(day);
        if (m.isNo()) return NO;
        if (m.becomes(name) == NONE) return NONE;
        return what == 0 ? m.becomes(name) : m.sure(name) ? 1 : 0;
    }

    public int sum(int day) {
        if (out(day, 0, 18)) return BAD;
        Midnight m = new Midnight(day);
        return m.isNo() ? NO : m.best;
    }

    public int rules(int day) {
        if (out(day, 0, 18)) return BAD;
        Midnight m = new Midnight(day);
        if (m.isNo()) return NO;
        int bits = 0;
        for (int k = 0; k < 12; k++) {
            boolean holds = true;
            for (int name : m.left) if (m.sure(name)) holds &= m.becomes(name) == (name + k) % 12;
            if (holds) bits |= 1 << k;
        }
        return bits;
    }

    public int trace(int day, int name) {
        if (out(day, 0, 19) || out(name, 0, 11)) return BAD;
        if (!senders(day).contains(name)) return NONE;
        if (day == 0) return name;
        Midnight m = new Midnight(day - 1);
        if (m.isNo()) return NO;
        for (int before : m.left) if (m.becomes(before) == name) return trace(day - 1, before);
        return NONE;
    }

    public int held(int day, int what) {
        if (out(day, 0, 19) || out(what, 0, 1)) return BAD;
        int all = 0;
        int right = 0;
        for (int name : senders(day)) {
            int from = trace(day, name);
            if (from == NO) return NO;
            if (from == NONE || post(name, day) == NONE || post(from, 0) == NONE) continue;
            all++;
            if (post(name, day) == post(from, 0)) right++;
        }
        return what == 0 ? all : right;
    }

    // ---- orders, show

    public int within(int h) {
        if (out(h, 1, 23)) return BAD;
        int was = this.h;
        this.h = h;
        return was;
    }

    private boolean soon(int first, int second) {
        int later = calls.get(second).hour - calls.get(first).hour;
        return later > 0 && later <= h || later == 0 && second > first;
    }

    private boolean isAnswer(int first, int second) {
        Call a = calls.get(first);
        Call b = calls.get(second);
        return b.from == a.to && b.to == a.from && soon(first, second);
    }

    private boolean isPassing(int first, int second) {
        Call a = calls.get(first);
        Call b = calls.get(second);
        return b.from == a.to && b.to != a.from && b.minutes == a.minutes && soon(first, second);
    }

    public int fate(int call) {
        if (out(call, 0, calls.size() - 1)) return BAD;
        int fate = 0;
        for (int i = 0; i < calls.size(); i++) {
            if (isAnswer(call, i)) fate |= 1;
            if (isPassing(call, i)) fate |= 2;
        }
        return fate;
    }

    public int sign(int a, int b, int d, int e) {
        if (out(a, 0, 11) || out(b, 0, 11) || a == b || badDays(d, e)) return BAD;
        int sign = 0;
        for (int i = 0; i < calls.size(); i++) {
            Call c = calls.get(i);
            if (c.from == a && c.to == b && !out(c.day(), d, e)) sign += new int[] {0, 2, 3, 5}[fate(i)];
        }
        return sign;
    }

    public int tree(int name, int d, int e, int what) {
        if (out(what, 0, 2) || what < 2 && out(name, 0, 11) || badDays(d, e)) return BAD;
        TreeSet<Integer> heard = new TreeSet<>();
        for (Call c : calls) if (!out(c.day(), d, e)) heard.addAll(List.of(c.from, c.to));
        if (out(heard.size(), 2, 6)) return NO;
        List<Integer> names = new ArrayList<>(heard);
        int n = names.size();
        int[][] signs = new int[n][n];
        for (int i = 0; i < n; i++) {
            for (int j = 0; j < n; j++) if (i != j) signs[i][j] = sign(names.get(i), names.get(j), d, e);
        }
        // Counting up with the lowest NAME as the highest figure and n for the ROOT is the order told.
        int best = -1;
        List<int[]> all = new ArrayList<>();
        int many = 1;
        for (int i = 0; i < n; i++) many *= n + 1;
        for (int code = 0; code < many; code++) {
            int[] above = new int[n];
            int rest = code;
            for (int i = n - 1; i >= 0; i--) {
                above[i] = rest % (n + 1);
                rest /= n + 1;
            }
            if (!isTree(above)) continue;
            int sum = 0;
            for (int i = 0; i < n; i++) if (above[i] < n) sum += signs[above[i]][i];
            if (sum > best) {
                best = sum;
                all.clear();
            }
            if (sum == best) all.add(above);
        }
        if (what == 2) return best;
        int i = names.indexOf(name);
        if (i < 0 || all.get(0)[i] == n) return NONE;
        if (what == 0) return names.get(all.get(0)[i]);
        for (int[] above : all) if (above[i] != all.get(0)[i]) return 0;
        return 1;
    }

    private static boolean isTree(int[] above) {
        int n = above.length;
        int roots = 0;
        for (int i = 0; i < n; i++) {
            if (above[i] == n) roots++;
            int at = i;
            for (int step = 0; step < n && at < n; step++) at = above[at];
            if (at < n) return false;
        }
        return roots == 1;
    }

    public int lacks(int name, int d, int e) {
        if (out(name, 0, 11) || badDays(d, e)) return BAD;
        List<Integer> own = new ArrayList<>();
        for (int i = 0; i < calls.size(); i++) {
            if (calls.get(i).from == name && !out(calls.get(i).day(), d, e)) own.add(i);
        }
        if (own.isEmpty()) return 0;
        boolean answered = false;
        boolean answers = false;
        Set<Integer> minutes = new HashSet<>();
        Set<Integer> hands = new HashSet<>();
        for (int i : own) {
            minutes.add(calls.get(i).minutes);
            hands.add(hand(i));
            for (int j = 0; j < calls.size(); j++) {
                answered |= isAnswer(i, j);
                answers |= isAnswer(j, i);
            }
        }
        boolean borrowed = false;
        for (int i = 0; i < calls.size(); i++) {
            Call c = calls.get(i);
            borrowed |= c.from != name && !out(c.day(), d, e) && hands.contains(hand(i));
        }
        int lacks = 0;
        if (!answered) lacks += 1;
        if (!answers) lacks += 2;
        if (own.size() >= 2 && minutes.size() == 1) lacks += 4;
        if (hands.size() == 1 && borrowed) lacks += 8;
        return lacks;
    }

    public int show(int d, int e) {
        if (badDays(d, e)) return BAD;
        int bits = 0;
        for (int name = 0; name < 12; name++) {
            if (Set.of(7, 11, 13, 14, 15).contains(lacks(name, d, e))) bits |= 1 << name;
        }
        return bits;
    }

    // ---- places, silence

    public int hearer(int hearer, int x, int y) {
        if (out(hearer, 0, 3) || out(x, 0, 15) || out(y, 0, 15)) return BAD;
        int was = 16 * hearers[hearer][0] + hearers[hearer][1];
        hearers[hearer] = new int[] {x, y};
        return was;
    }

    public int bearing(int hearer, int name, int day, int u, int v, int w) {
        if (out(hearer, 0, 3) || out(name, 0, 11) || out(day, 0, 19) || out(u, -9, 9) || out(v, -9, 9)
                || u == 0 && v == 0 || out(w, 1, 20)) return BAD;
        if (bearings.size() == 40) return FULL;
        bearings.add(new Bearing(hearer, name, day, u, v, w));
        return bearings.size();
    }

    private List<int[]> cells(int name, int day) {
        List<int[]> found = new ArrayList<>();
        for (int x = 0; x < 16; x++) for (int y = 0; y < 16; y++) if (isIn(name, day, x, y) == 1) found.add(new int[] {x, y});
        return found;
    }

    public int patch(int name, int day, int what) {
        if (out(name, 0, 11) || out(day, 0, 19) || out(what, 0, 1)) return BAD;
        List<int[]> cells = cells(name, day);
        if (what == 0) return cells.size();
        if (cells.isEmpty()) return NONE;
        int x = 0;
        int y = 0;
        for (int[] cell : cells) {
            x += cell[0];
            y += cell[1];
        }
        return 16 * (x / cells.size()) + y / cells.size();
    }

    public int isIn(int name, int day, int x, int y) {
        if (out(name, 0, 11) || out(day, 0, 19) || out(x, 0, 15) || out(y, 0, 15)) return BAD;
        for (Bearing b : bearings) {
            if (b.name != name || b.day != day) continue;
            int dx = x - hearers[b.hearer][0];
            int dy = y - hearers[b.hearer][1];
            int dot = b.u * dx + b.v * dy;
            int off = b.u * dy - b.v * dx;
            if (dot <= 0 || 10 * off > b.w * dot || -10 * off > b.w * dot) return 0;
        }
        return 1;
    }

    public int moved(int name, int day, int other) {
        if (out(name, 0, 11) || out(day, 0, 19) || out(other, 0, 19)) return BAD;
        int least = NONE;
        for (int[] a : cells(name, day)) {
            for (int[] b : cells(name, other)) {
                int way = Math.max(Math.abs(a[0] - b[0]), Math.abs(a[1] - b[1]));
                if (least == NONE || way < least) least = way;
            }
        }
        return least;
    }

    public int listen(int wave, int a, int b) {
        if (out(wave, 0, 7) || out(a, 0, 479) || out(b, 0, 479) || a > b) return BAD;
        if (listened.size() == 20) return FULL;
        listened.add(new Listened(wave, a, b));
        return listened.size();
    }

    public int silent(int name, int t, int s) {
        if (out(name, 0, 11) || out(t, 0, 479) || out(s, 1, 48) || t < s) return BAD;
        Set<Integer> waves = new HashSet<>();
        for (Call c : calls) {
            if (c.from != name) continue;
            waves.add(c.wave);
            if (c.hour >= t - s && c.hour <= t - 1) return 0;
        }
        if (waves.isEmpty()) return 0;
        for (int hour = t - s; hour < t; hour++) {
            for (int wave : waves) {
                boolean heard = false;
                for (Listened l : listened) heard |= l.wave == wave && l.a <= hour && hour <= l.b;
                if (!heard) return 0;
            }
        }
        return 1;
    }

    public int event(int hour) {
        if (out(hour, 0, 479)) return BAD;
        if (events.size() == 10) return FULL;
        events.add(hour);
        return events.size();
    }

    public int ahead(int name, int s, int what) {
        if (out(name, 0, 11) || out(s, 1, 48) || out(what, 0, 3)) return BAD;
        List<Integer> hours = new ArrayList<>(events);
        if (what >= 2) {
            hours.clear();
            for (int hour = 0; hour < 480; hour++) hours.add(hour);
        }
        hours.removeIf(hour -> hour < s);
        if (what % 2 == 1) return hours.size();
        int found = 0;
        for (int hour : hours) found += silent(name, hour, s);
        return found;
    }

    public int waves(int k, int d, int e, int what) {
        if (out(k, 1, 8) || badDays(d, e) || out(what, 0, 2)) return BAD;
        Set<List<Integer>> links = new HashSet<>();
        for (Call c : calls) if (!out(c.day(), d, e)) links.add(List.of(c.from, c.to));
        if (what == 2) return links.size();
        int best = -1;
        int bits = 0;
        for (int set = 255; set >= 0; set--) {
            if (Integer.bitCount(set) != k) continue;
            Set<List<Integer>> reached = new HashSet<>();
            for (Call c : calls) {
                if (!out(c.day(), d, e) && (set & 1 << c.wave) != 0) reached.add(List.of(c.from, c.to));
            }
            if (reached.size() >= best) {
                best = reached.size();
                bits = set;
            }
        }
        return what == 0 ? bits : best;
    }

    public int keep() {
        if (kept.size() == 2) return FULL;
        kept.push(new Kept(new ArrayList<>(calls), new ArrayList<>(bearings), new ArrayList<>(listened),
                new ArrayList<>(events)));
        return kept.size();
    }

    public int back() {
        if (kept.isEmpty()) return NO;
        Kept last = kept.pop();
        calls = last.calls;
        bearings = last.bearings;
        listened = last.listened;
        events = last.events;
        return kept.size();
    }

    public int count(int what) {
        int[] counts = {calls.size(), text.length(), items(taken, new int[1]).size(), bearings.size(),
            listened.size(), events.size(), kept.size()};
        return out(what, 0, 6) ? BAD : counts[what];
    }

    @Override
    public String toString() {
        return calls + " T " + t + " H " + h + " " + Arrays.deepToString(hearers) + bearings + listened + events;
    }
}
