import java.util.ArrayDeque;
import java.util.ArrayList;
import java.util.Arrays;
import java.util.Deque;
import java.util.List;
import java.util.regex.Matcher;
import java.util.regex.Pattern;

/** The document once more, held and worked out otherwise than in SoleWear: what RandomTest compares it with. */
final class Model {
    static final int BAD = -1000000001, NO = -1000000002, FULL = -1000000003, NONE = -1000000005;
    static final int NOTHING = -1000000011, KIND = -1000000012, INDEX = -1000000013, SIZE = -1000000014;

    static class Dancer {
        int wears(int given) { return given; }
        int goes(int steps, int hour) { return steps; }
        int leaves(int floor) { return floor >= 5 ? 1 : 0; }
        int worth(int sole) { return sole; }
    }

    static class Eldest extends Dancer {
        @Override int wears(int given) { return super.wears(given) / 2; }
        @Override int goes(int steps, int hour) { return Math.max(0, super.goes(steps, hour) - 1); }
        @Override int worth(int sole) { return super.worth(sole) + 8; }
    }

    static class Light extends Eldest {
        @Override int wears(int given) { return Math.max(0, super.wears(given) - 1); }
        @Override int goes(int steps, int hour) { return super.goes(steps, hour) + 2; }
        @Override int leaves(int floor) { return 0; }
        @Override int worth(int sole) { return super.worth(sole) * 2; }
    }

    static class Clumsy extends Dancer {
        @Override int wears(int given) { return super.wears(given) * 2; }
        @Override int leaves(int floor) { return super.leaves(floor) + 1; }
        @Override int worth(int sole) { return 999 - sole; }
    }

    static class Heeled extends Clumsy {
        @Override int wears(int given) { return super.wears(given) + 3; }
        @Override int goes(int steps, int hour) { return super.goes(steps, hour) / 2; }
        @Override int worth(int sole) { return super.worth(sole) - 7; }
    }

    static class Twelfth extends Dancer {
        @Override int wears(int given) { return super.wears(given) + 1; }
        @Override int goes(int steps, int hour) { return hour % 12 == 11 ? steps + 1 : steps; }
        @Override int worth(int sole) { return 12; }
    }

    static final Dancer[] KINDS = {new Dancer(), new Eldest(), new Clumsy(), new Light(), new Heeled(), new Twelfth()};

    static boolean isOf(int kind, int asked) {
        return KINDS[asked].getClass().isInstance(KINDS[kind]);
    }

    static final class One {
        int kind, at, sole, steps, danced;

        One(int kind, int at, int sole, int steps, int danced) {
            this.kind = kind;
            this.at = at;
            this.sole = sole;
            this.steps = steps;
            this.danced = danced;
        }

        int goes(int hour) { return sole == 0 ? 0 : KINDS[kind].goes(steps, hour); }
    }

    static final class State {
        List<One> all = new ArrayList<>();
        int[] floor = new int[10], leads = new int[10], marks = new int[10];
        int watch, seen, looked, hour, z = 1;
        List<Text> texts = new ArrayList<>();

        State() {
            Arrays.fill(floor, 1);
            for (int r = 0; r < 10; r++) leads[r] = r;
        }

        State another() {
            State s = new State();
            for (One o : all) s.all.add(new One(o.kind, o.at, o.sole, o.steps, o.danced));
            s.floor = floor.clone();
            s.leads = leads.clone();
            s.marks = marks.clone();
            s.watch = watch;
            s.seen = seen;
            s.looked = looked;
            s.hour = hour;
            s.z = z;
            s.texts = new ArrayList<>(texts);
            return s;
        }

        int draw() {
            z = (int) (z * 1103515245L + 12345L);
            return (int) ((z & 0xffffffffL) / 256);
        }

        int counts(int key) {
            for (int i = texts.size() - 1; i >= 0; i--) if (texts.get(i).key == key) return i;
            return -1;
        }

        int wears(One o) {
            int text = counts(0);
            int given = floor[o.at];
            if (text >= 0) given = texts.get(text).gives("fsd", floor[o.at], o.sole, o.danced);
            if (given < 0) given = 0;
            if (given > 99) given = 99;
            return KINDS[o.kind].wears(given);
        }

        int anHour() {
            int gone = 0;
            for (One o : all) {
                int goes = o.goes(hour);
                for (int i = 0; i < goes; i++) {
                    if (o.sole == 0) break;
                    o.at = leads[o.at];
                    o.danced += 1;
                    o.sole -= wears(o);
                    if (o.sole < 0) o.sole = 0;
                    marks[o.at] += KINDS[o.kind].leaves(floor[o.at]);
                    gone++;
                }
            }
            if (draw() % 100 < watch) {
                int looksAt = draw() % 10;
                looked++;
                for (One o : all) if (o.at == looksAt) seen++;
            }
            hour++;
            return gone;
        }

        State behind(int n) {
            State s = another();
            for (int i = 0; i < n; i++) s.anHour();
            return s;
        }

        int soles() {
            int sum = 0;
            for (One o : all) sum += o.sole;
            return sum;
        }

        int allMarks() {
            return Arrays.stream(marks).sum();
        }

        int barefoot() {
            int set = 0;
            for (int i = 0; i < all.size(); i++) if (all.get(i).sole == 0) set += 1 << i;
            return set;
        }
    }

    /** A text as the words and signs behind its key, worked out anew each time. */
    static final class Text {
        final int key;
        final List<String> words;
        final int pieces;
        private int next;
        private String names;
        private int[] values;

        Text(int key, List<String> words) {
            this.key = key;
            this.words = words;
            int n = 0;
            for (String w : words) if (Character.isLetterOrDigit(w.charAt(0))) n++;
            pieces = n;
        }

        int gives(String names, int... values) {
            this.names = names;
            this.values = values;
            next = 0;
            return or();
        }

        private String see() {
            return next < words.size() ? words.get(next) : "";
        }

        private boolean eat(String sign) {
            if (!see().equals(sign)) return false;
            next++;
            return true;
        }

        private int or() {
            int v = and();
            while (eat("|")) {
                int w = and();
                v = v != 0 | w != 0 ? 1 : 0;
            }
            return v;
        }

        private int and() {
            int v = test();
            while (eat("&")) {
                int w = test();
                v = v != 0 & w != 0 ? 1 : 0;
            }
            return v;
        }

        private int test() {
            int v = sum();
            if (eat("<")) return v < sum() ? 1 : 0;
            if (eat("=")) return v == sum() ? 1 : 0;
            if (eat(">")) return v > sum() ? 1 : 0;
            return v;
        }

        private int sum() {
            int v = term();
            while (true) {
                if (eat("+")) v += term();
                else if (eat("-")) v -= term();
                else return v;
            }
        }

        private int term() {
            int v = piece();
            while (true) {
                if (eat("*")) {
                    v *= piece();
                } else if (eat("/")) {
                    int w = piece();
                    v = w == 0 ? 0 : v / w;
                } else {
                    return v;
                }
            }
        }

        private int piece() {
            if (eat("!")) return piece() == 0 ? 1 : 0;
            if (eat("(")) {
                int v = or();
                eat(")");
                return v;
            }
            String w = see();
            next++;
            int name = names.indexOf(w);
            return name >= 0 ? values[name] : Integer.parseInt(w);
        }
    }

    private static final Pattern WORD = Pattern.compile("[a-z]+|[0-9]+|[^ ]", Pattern.DOTALL);
    private static final List<String> KEYS = Arrays.asList("wear", "fee", "fine");
    private static final String[] NAMES = {"fsd", "sl", "sd"};

    /** What is open in a text while it is read, as rows of signs: no recursion here, unlike in SoleWear. */
    private static final class Open {
        boolean compared;
        int notsOutside;
    }

    /** The text told by these bytes, or the place of its fault. */
    static Object read(String tape) {
        Matcher m = WORD.matcher(tape);
        int key = -1;
        List<String> words = new ArrayList<>();
        boolean wantsPiece = true;
        boolean compared = false;
        int nots = 0;
        Deque<Open> open = new ArrayDeque<>();
        int notsOutside = 0;
        while (m.find()) {
            String w = m.group();
            int place = m.start();
            boolean isWord = Character.isLetterOrDigit(w.charAt(0)) && w.charAt(0) < 128;
            if (isWord && place > 0 && tape.substring(place - 1, place).matches("[a-z0-9]")) return place;
            if (key < 0) {
                key = KEYS.indexOf(w);
                if (key < 0) return place;
                continue;
            }
            if (wantsPiece) {
                if (w.equals("!")) {
                    if (notsOutside + nots == 8) return place;
                    nots++;
                } else if (w.equals("(")) {
                    if (open.size() == 8) return place;
                    Open o = new Open();
                    o.compared = compared;
                    o.notsOutside = notsOutside;
                    open.push(o);
                    notsOutside += nots;
                    nots = 0;
                    compared = false;
                } else if (w.matches("[0-9]{1,4}") || w.length() == 1 && NAMES[key].contains(w)) {
                    nots = 0;
                    wantsPiece = false;
                } else {
                    return place;
                }
            } else if (w.equals(")") && !open.isEmpty()) {
                Open o = open.pop();
                compared = o.compared;
                notsOutside = o.notsOutside;
                nots = 0;
            } else if ("<=>".contains(w)) {
                if (compared) return place;
                compared = true;
                wantsPiece = true;
            } else if ("&|".contains(w)) {
                compared = false;
                wantsPiece = true;
            } else if ("+-*/".contains(w)) {
                wantsPiece = true;
            } else {
                return place;
            }
            words.add(w);
        }
        if (wantsPiece || !open.isEmpty()) return tape.length();
        return new Text(key, words);
    }

    static final class Sheet {
        final boolean floats;
        final Integer[] places;

        Sheet(boolean floats, Integer[] places) {
            this.floats = floats;
            this.places = places;
        }
    }

    private State s = new State();
    private State image;
    private final StringBuilder tape = new StringBuilder();
    private final Sheet[] sheets = new Sheet[4];
    private final Object[] slots = new Object[5];
    private final List<Integer> waiting = new ArrayList<>();

    private static boolean in(int v, int least, int most) {
        return least <= v && v <= most;
    }

    private boolean isOne(int d) {
        return in(d, 0, s.all.size() - 1);
    }

    int dancer(int kind, int room, int sole, int steps) {
        if (!in(kind, 0, 5) || !in(room, 0, 9) || !in(sole, 0, 999) || !in(steps, 0, 5)) return BAD;
        if (s.all.size() == 12) return FULL;
        s.all.add(new One(kind, room, sole, steps, 0));
        return s.all.size() - 1;
    }

    int told(int d, int what) {
        if (!isOne(d) || !in(what, 0, 8)) return BAD;
        One o = s.all.get(d);
        Dancer k = KINDS[o.kind];
        int[] all = {o.kind, o.at, o.sole, o.steps, o.danced, o.goes(s.hour), s.wears(o), k.leaves(s.floor[o.at]), k.worth(o.sole)};
        return all[what];
    }

    int as(int d, int kind) {
        if (!isOne(d) || !in(kind, 0, 5)) return BAD;
        return isOf(s.all.get(d).kind, kind) ? s.all.get(d).sole : KIND;
    }

    int turns(int d, int kind) {
        if (!isOne(d) || !in(kind, 0, 5)) return BAD;
        int was = s.all.get(d).kind;
        s.all.get(d).kind = kind;
        return was;
    }

    int set(int d, int what, int v) {
        if (!isOne(d) || !in(what, 1, 3) || v < 0 || v > new int[] {0, 9, 999, 5}[what]) return BAD;
        One o = s.all.get(d);
        int was = told(d, what);
        if (what == 1) o.at = v;
        if (what == 2) o.sole = v;
        if (what == 3) o.steps = v;
        return was;
    }

    int room(int room, int what, int v) {
        if (!in(room, 0, 9) || !in(what, 0, 1) || !in(v, 0, 9)) return BAD;
        int[] row = what == 0 ? s.floor : s.leads;
        int was = row[room];
        row[room] = v;
        return was;
    }

    int sweep(int room) {
        if (!in(room, 0, 9)) return BAD;
        int was = s.marks[room];
        s.marks[room] = 0;
        return was;
    }

    int watch(int v) {
        if (!in(v, 0, 100)) return BAD;
        int was = s.watch;
        s.watch = v;
        return was;
    }

    int at(int room) {
        if (!in(room, 0, 9)) return BAD;
        int set = 0;
        for (int i = 0; i < s.all.size(); i++) if (s.all.get(i).at == room) set += 1 << i;
        return set;
    }

    int round(int room) {
        if (!in(room, 0, 9)) return BAD;
        List<Integer> way = new ArrayList<>();
        int r = room;
        while (!way.contains(r)) {
            way.add(r);
            r = s.leads[r];
        }
        return way.size() - way.indexOf(r);
    }

    int to(int from, int room) {
        if (!in(from, 0, 9) || !in(room, 0, 9)) return BAD;
        List<Integer> way = new ArrayList<>();
        int r = from;
        while (!way.contains(r)) {
            way.add(r);
            r = s.leads[r];
        }
        return way.contains(room) ? way.indexOf(room) : NONE;
    }

    int deal(int n) {
        if (!in(n, 1, 12)) return BAD;
        int came = 0;
        while (came < n && s.all.size() < 12) {
            int kind = s.draw() % 6;
            int at = s.draw() % 10;
            int sole = 1 + s.draw() % 200;
            int steps = s.draw() % 6;
            s.all.add(new One(kind, at, sole, steps, 0));
            came++;
        }
        return came;
    }

    int seed(int v) {
        int was = s.z;
        s.z = v;
        return was;
    }

    int hours(int n) {
        if (!in(n, 1, 100)) return BAD;
        int gone = 0;
        for (int i = 0; i < n && s.hour < 9999; i++) gone += s.anHour();
        return gone;
    }

    int house(int what) {
        if (!in(what, 0, 5)) return BAD;
        int rooms = 0;
        for (int r = 0; r < 10; r++) if (s.marks[r] != 0) rooms += 1 << r;
        return new int[] {s.seen, s.looked, s.allMarks(), s.soles(), s.barefoot(), rooms}[what];
    }

    int behind(int n, int what) {
        if (!in(n, 0, 100) || !in(what, 0, 2 + s.all.size())) return BAD;
        State t = s.behind(n);
        if (what > 2) return t.all.get(what - 3).at;
        return new int[] {t.seen, t.allMarks(), t.barefoot()}[what];
    }

    int through() {
        State t = s.another();
        for (int h = 1; h <= 200; h++) {
            t.anHour();
            if (Integer.bitCount(t.barefoot()) > Integer.bitCount(s.barefoot())) return h;
        }
        return NONE;
    }

    int post(int n, int what) {
        if (!in(n, 1, 60) || !in(what, 0, 1)) return BAD;
        int[] times = new int[10];
        State t = s.another();
        for (int i = 0; i < n; i++) {
            t.anHour();
            for (One o : t.all) times[o.at]++;
        }
        int most = Arrays.stream(times).max().getAsInt();
        int room = 0;
        while (times[room] != most) room++;
        return what == 0 ? room : most;
    }

    int began(int d, int n) {
        if (!isOne(d) || !in(n, 0, 60)) return BAD;
        int set = 0;
        for (int r = 0; r < 10; r++) {
            State t = s.another();
            t.all.get(d).at = r;
            if (t.behind(n).all.get(d).at == s.all.get(d).at) set += 1 << r;
        }
        return set;
    }

    int mended(int n, int what) {
        if (!in(n, 1, 60) || !in(what, 0, 1)) return BAD;
        int[] left = new int[10];
        for (int r = 0; r < 10; r++) {
            State t = s.another();
            t.floor[r] = 0;
            left[r] = t.behind(n).soles();
        }
        int most = Arrays.stream(left).max().getAsInt();
        int room = 0;
        while (left[room] != most) room++;
        return what == 0 ? room : most;
    }

    int meets(int one, int other, int n) {
        if (!isOne(one) || !isOne(other) || one == other || !in(n, 0, 100)) return BAD;
        for (int h = 0; h <= n; h++) {
            State t = s.behind(h);
            if (t.all.get(one).at == t.all.get(other).at) return h;
        }
        return NONE;
    }

    int leads(int room, int n, int what) {
        if (!in(room, 0, 9) || !in(n, 1, 60) || !in(what, 0, 1)) return BAD;
        int[] seen = new int[10];
        for (int r = 0; r < 10; r++) {
            State t = s.another();
            t.leads[room] = r;
            seen[r] = t.behind(n).seen;
        }
        int least = Arrays.stream(seen).min().getAsInt();
        int other = 0;
        while (seen[other] != least) other++;
        return what == 0 ? other : least;
    }

    int whose(int sheet, int what) {
        if (!in(sheet, 0, 3) || !in(what, 0, 1)) return BAD;
        if (sheets[sheet] == null) return NOTHING;
        if (s.all.isEmpty()) return NONE;
        int best = -1;
        int least = Integer.MAX_VALUE;
        for (int d = 0; d < s.all.size(); d++) {
            int sum = 0;
            for (int k = 0; k < sheets[sheet].places.length; k++) {
                Integer p = sheets[sheet].places[k];
                if (p != null) sum += Math.abs(s.behind(k).all.get(d).sole - p);
            }
            if (sum < least) {
                least = sum;
                best = d;
            }
        }
        return what == 0 ? best : least;
    }

    int fee() {
        int text = s.counts(1);
        return text < 0 ? s.seen : s.texts.get(text).gives("sl", s.seen, s.looked);
    }

    int fine(int d) {
        if (!isOne(d)) return BAD;
        One o = s.all.get(d);
        int text = s.counts(2);
        return text < 0 ? o.danced : s.texts.get(text).gives("sd", o.sole, o.danced);
    }

    int feed(int a, int b, int c) {
        if (tape.length() + 12 > 96) return FULL;
        for (int v : new int[] {a, b, c}) {
            for (int i = 3; i >= 0; i--) tape.append((char) (v >> 8 * i & 255));
        }
        return tape.length();
    }

    int trim(int n) {
        if (!in(n, 0, tape.length())) return BAD;
        tape.setLength(n);
        return n;
    }

    int text() {
        Object read = read(tape.toString());
        tape.setLength(0);
        if (read instanceof Integer) return -100 - (Integer) read;
        if (s.texts.size() == 14) return FULL;
        s.texts.add((Text) read);
        return s.texts.size() - 1;
    }

    int textTold(int text, int what) {
        if (!in(text, 0, s.texts.size() - 1) || !in(what, 0, 1)) return BAD;
        return what == 0 ? s.texts.get(text).key : s.texts.get(text).pieces;
    }

    int why(int key) {
        if (!in(key, 0, 2)) return BAD;
        return s.counts(key) < 0 ? NONE : s.counts(key);
    }

    int sheet(int sheet, int sort, int n) {
        if (!in(sheet, 0, 3) || !in(sort, -1, 1)) return BAD;
        if (sort < 0) {
            sheets[sheet] = null;
            return 0;
        }
        if (n > 24) return BAD;
        if (n < 0) return SIZE;
        Integer[] places = new Integer[n];
        Arrays.fill(places, 0);
        sheets[sheet] = new Sheet(sort == 1, places);
        return n;
    }

    int mark(int sheet, int place, int v) {
        if (!in(sheet, 0, 3)) return BAD;
        Sheet row = sheets[sheet];
        if (row == null) return NOTHING;
        if (!in(place, 0, row.places.length - 1)) return INDEX;
        if (!row.floats && v == NONE) return KIND;
        if (row.floats && v != NONE && !in(v, -99999, 99999)) return BAD;
        if (row.floats) row.places[place] = v == NONE ? null : (Integer) v;
        else row.places[place] = (int) (short) v;
        return 1;
    }

    int pour(int sheet) {
        if (!in(sheet, 0, 3)) return BAD;
        if (sheets[sheet] == null) return NOTHING;
        int[] was = s.floor.clone();
        Integer[] places = sheets[sheet].places;
        for (int r = 0; r < 10; r++) {
            if (r < places.length && places[r] != null) s.floor[r] = places[r] < 0 ? 0 : places[r] > 9 ? 9 : places[r];
        }
        int n = 0;
        for (int r = 0; r < 10; r++) if (was[r] != s.floor[r]) n++;
        return n;
    }

    int reads(int sheet) {
        if (!in(sheet, 0, 3)) return BAD;
        if (sheets[sheet] == null) return NOTHING;
        Integer[] places = sheets[sheet].places;
        for (int p = 0; p < places.length; p++) {
            if (places[p] == null) continue;
            if (p > 9 || places[p] != s.marks[p]) return p;
        }
        return NONE;
    }

    int copy(int from, int place, int to, int at, int many) {
        if (!in(from, 0, 3) || !in(to, 0, 3)) return BAD;
        if (sheets[from] == null || sheets[to] == null) return NOTHING;
        if (sheets[from].floats != sheets[to].floats) return KIND;
        try {
            System.arraycopy(sheets[from].places, place, sheets[to].places, at, many);
        } catch (IndexOutOfBoundsException e) {
            return INDEX;
        }
        return many;
    }

    int lay(int slot, int thing, int k) {
        if (!in(slot, 0, 4) || !in(thing, 0, 3)) return BAD;
        if (thing == 1 && !isOne(k) || thing == 2 && !in(k, 0, 3)) return BAD;
        if (thing == 2 && sheets[k] == null) return NOTHING;
        Object was = slots[slot];
        if (thing == 0) slots[slot] = null;
        if (thing == 1) slots[slot] = new One(s.all.get(k).kind, 0, s.all.get(k).sole, 0, 0);
        if (thing == 2) slots[slot] = new Sheet(sheets[k].floats, sheets[k].places.clone());
        if (thing == 3) slots[slot] = k;
        return was == null ? 0 : was instanceof One ? 1 : was instanceof Sheet ? 2 : 3;
    }

    int ask(int slot, int kind) {
        if (!in(slot, 0, 4) || !in(kind, 0, 5)) return BAD;
        if (slots[slot] == null) return NOTHING;
        if (!(slots[slot] instanceof One)) return KIND;
        One o = (One) slots[slot];
        return isOf(o.kind, kind) ? KINDS[o.kind].worth(o.sole) : KIND;
    }

    int item(int slot, int place) {
        if (!in(slot, 0, 4)) return BAD;
        if (slots[slot] == null) return NOTHING;
        if (!(slots[slot] instanceof Sheet)) return KIND;
        Integer[] places = ((Sheet) slots[slot]).places;
        if (!in(place, 0, places.length - 1)) return INDEX;
        return places[place] == null ? KIND : places[place];
    }

    int rest(int slot, int n) {
        if (!in(slot, 0, 4)) return BAD;
        if (slots[slot] == null) return NOTHING;
        if (!(slots[slot] instanceof Integer)) return KIND;
        return n == 0 ? NO : (int) ((long) (Integer) slots[slot] % n);
    }

    int tell(int v) {
        if (waiting.size() == 60) return FULL;
        waiting.add(v);
        return waiting.size();
    }

    /** The hours told of n hours by the image, for tests that tell them; empty without one. */
    List<Integer> hoursTold(int n) {
        List<Integer> rows = new ArrayList<>();
        if (image == null) return rows;
        State t = image.another();
        for (int i = 0; i < n && t.hour < 9999; i++) {
            t.anHour();
            rows.add(t.soles());
            rows.add(t.seen);
        }
        return rows;
    }

    int check(int n) {
        List<Integer> had = new ArrayList<>(waiting);
        waiting.clear();
        if (!in(n, 1, 30)) return BAD;
        if (image == null) return NO;
        List<Integer> due = hoursTold(n);
        if (had.equals(due)) return 0;
        int right = 0;
        while (right < had.size() && right < due.size() && had.get(right).equals(due.get(right))) right++;
        return 1 + right;
    }

    int keep() {
        image = s.another();
        return s.all.size();
    }

    int back() {
        if (image == null) return NO;
        s = image.another();
        return s.all.size();
    }

    int count(int what) {
        if (!in(what, 0, 6)) return BAD;
        return new int[] {s.all.size(), s.hour, s.watch, s.texts.size(), waiting.size(), tape.length(), s.z}[what];
    }
}
