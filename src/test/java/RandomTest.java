import java.lang.reflect.Method;
import java.util.ArrayList;
import java.util.Comparator;
import java.util.HashSet;
import java.util.List;
import java.util.Map;
import java.util.Random;
import java.util.Set;
import java.util.TreeMap;

/** Runs of calls by lot on SoleWear and on Model: each answer must be the same. */
public final class RandomTest {
    private static final int RUNS = 600, CALLS = 512;
    private static final Map<String, Set<Integer>> REFUSED = new TreeMap<>();

    private final Random lot;
    private final SoleWear x = new SoleWear();
    private final Model m = new Model();
    private final List<String> calls = new ArrayList<>();
    private final Map<String, Method> ours = new TreeMap<>();
    private final Map<String, Method> due = new TreeMap<>();
    private final List<String> names = new ArrayList<>();

    private RandomTest(long seed) {
        lot = new Random(seed);
        for (Method f : SoleWear.class.getDeclaredMethods()) {
            if (java.lang.reflect.Modifier.isPublic(f.getModifiers())) ours.put(f.getName(), f);
        }
        for (Method f : Model.class.getDeclaredMethods()) {
            if (ours.containsKey(f.getName())) due.put(f.getName(), f);
        }
        names.addAll(ours.keySet());
        names.sort(Comparator.naturalOrder());
    }

    private int of(int least, int most) {
        return least + lot.nextInt(most - least + 1);
    }

    /** Mostly within the bounds, now and then at or right behind an edge, or anywhere. */
    private int near(int least, int most) {
        int by = lot.nextInt(100);
        if (by < 88 && least <= most) return of(least, most);
        if (by < 91) return least;
        if (by < 94) return most;
        if (by < 96) return least - 1;
        if (by < 98) return most + 1;
        int[] far = {Integer.MIN_VALUE, Integer.MAX_VALUE, lot.nextInt(), -1, SoleWear.NONE};
        return far[lot.nextInt(far.length)];
    }

    private int due(String name, int... args) throws Exception {
        Object[] boxed = new Object[args.length];
        StringBuilder told = new StringBuilder(name).append('(');
        for (int i = 0; i < args.length; i++) {
            boxed[i] = args[i];
            told.append(i > 0 ? ", " : "").append(args[i]);
        }
        calls.add(told.append(')').toString());
        int got = (Integer) ours.get(name).invoke(x, boxed);
        int want = (Integer) due.get(name).invoke(m, boxed);
        if (want <= -1000000001 && want >= -1000000014) REFUSED.computeIfAbsent(name, k -> new HashSet<>()).add(want);
        if (got != want) throw new AssertionError(calls + " answered " + got + ", due is " + want);
        return want;
    }

    private int any() {
        return near(0, m.count(0) - 1);
    }

    private int[] argsOf(String name) {
        switch (name) {
            case "dancer": return new int[] {near(0, 5), near(0, 9), near(0, 999), near(0, 5)};
            case "told": return new int[] {any(), near(0, 8)};
            case "as": case "turns": return new int[] {any(), near(0, 5)};
            case "set": {
                int what = near(1, 3);
                return new int[] {any(), what, near(0, what == 1 ? 9 : what == 2 ? 999 : 5)};
            }
            case "room": return new int[] {near(0, 9), near(0, 1), near(0, 9)};
            case "sweep": case "at": case "round": return new int[] {near(0, 9)};
            case "watch": return new int[] {near(0, 100)};
            case "to": return new int[] {near(0, 9), near(0, 9)};
            case "deal": return new int[] {near(1, lot.nextBoolean() ? 2 : 12)};
            case "seed": return new int[] {lot.nextInt()};
            case "hours": return new int[] {near(1, lot.nextInt(4) > 0 ? 4 : 100)};
            case "house": return new int[] {near(0, 5)};
            case "behind": return new int[] {near(0, lot.nextBoolean() ? 9 : 100), near(0, 2 + m.count(0))};
            case "post": case "mended": return new int[] {near(1, lot.nextBoolean() ? 7 : 60), near(0, 1)};
            case "began": return new int[] {any(), near(0, lot.nextBoolean() ? 5 : 60)};
            case "meets": return new int[] {any(), any(), near(0, lot.nextBoolean() ? 9 : 100)};
            case "leads": return new int[] {near(0, 9), near(1, lot.nextBoolean() ? 9 : 60), near(0, 1)};
            case "whose": return new int[] {near(0, 3), near(0, 1)};
            case "fine": return new int[] {any()};
            case "feed": return new int[] {lot.nextInt(), lot.nextInt(), lot.nextInt()};
            case "trim": return new int[] {near(0, m.count(5))};
            case "textTold": return new int[] {near(0, m.count(3) - 1), near(0, 1)};
            case "why": return new int[] {near(0, 2)};
            case "sheet": return new int[] {near(0, 3), lot.nextInt(8) == 0 ? near(-1, 1) : near(0, 1), near(0, 24)};
            case "mark": return new int[] {near(0, 3), near(0, lot.nextBoolean() ? 4 : 23), markValue()};
            case "pour": case "reads": return new int[] {near(0, 3)};
            case "copy": return new int[] {near(0, 3), near(0, 9), near(0, 3), near(0, 9), near(0, 9)};
            case "lay": {
                int thing = near(0, 3);
                return new int[] {near(0, 4), thing, thing == 1 ? any() : thing == 2 ? near(0, 3) : lot.nextInt()};
            }
            case "ask": return new int[] {near(0, 4), near(0, 5)};
            case "item": return new int[] {near(0, 4), near(0, lot.nextBoolean() ? 4 : 23)};
            case "rest": return new int[] {near(0, 4), near(-3, 9)};
            case "tell": return new int[] {near(0, 200)};
            case "check": return new int[] {near(1, 30)};
            case "count": return new int[] {near(0, 6)};
            default: return new int[0];
        }
    }

    private int markValue() {
        switch (lot.nextInt(6)) {
            case 0: return near(-99999, 99999);
            case 1: return SoleWear.NONE;
            case 2: return m.count(0) > 0 ? m.told(lot.nextInt(m.count(0)), 2) : 0;
            case 3: return near(-3, 12);
            default: return 0;
        }
    }

    private static String pick(Random lot, String... of) {
        return of[lot.nextInt(of.length)];
    }

    private String expression(String names, int depth) {
        int by = lot.nextInt(depth > 0 ? 9 : 3);
        String blank = pick(lot, "", "", " ");
        if (by < 2) return blank + names.charAt(lot.nextInt(names.length()));
        if (by < 3) return blank + lot.nextInt(pick(lot, "a", "b").equals("a") ? 12 : 10000);
        if (by < 4) return blank + "!" + expression(names, depth - 1);
        if (by < 5) return blank + "(" + expression(names, depth - 1) + blank + ")";
        return expression(names, depth - 1) + blank + pick(lot, "+", "-", "*", "/", "<", "=", ">", "&", "|") + expression(names, depth - 1);
    }

    private String tapeByLot() {
        int key = lot.nextInt(3);
        String names = new String[] {"fsd", "sl", "sd"}[key];
        String e = expression(names, lot.nextInt(5));
        if (lot.nextInt(12) == 0) e = "!".repeat(of(6, 10)) + (lot.nextBoolean() ? "s" : "(!s)");
        if (lot.nextInt(12) == 0) e = "(".repeat(of(6, 10)) + "s" + ")".repeat(of(6, 10));
        String tape = pick(lot, "", "", " ") + new String[] {"wear", "fee", "fine"}[key] + pick(lot, " ", " ", "") + e;
        if (lot.nextInt(3) == 0 && !tape.isEmpty()) {
            int place = lot.nextInt(tape.length());
            String other = pick(lot, "", " ", "a", "s", "l", "7", "12345", "(", ")", "!", "<", "*", "\u0000", "\u00e4", "A");
            tape = tape.substring(0, place) + other + tape.substring(lot.nextBoolean() ? place : place + 1);
        }
        return tape.length() > 96 ? tape.substring(0, 96) : tape;
    }

    private void tellText() throws Exception {
        String tape = tapeByLot();
        due("trim", 0);
        for (int i = 0; i < tape.length(); i += 12) {
            int[] fed = new int[3];
            for (int k = 0; k < 12; k++) {
                int b = i + k < tape.length() ? tape.charAt(i + k) : ' ';
                fed[k / 4] = fed[k / 4] << 8 | b;
            }
            due("feed", fed);
        }
        due("trim", tape.length());
        due("text");
    }

    private void tellHours() throws Exception {
        while (m.count(4) > 0) due("check", 1);
        int n = of(1, 30);
        List<Integer> rows = m.hoursTold(n);
        int wrong = lot.nextInt(4) > 0 ? -1 : lot.nextInt(rows.size() + 1);
        for (int i = 0; i < rows.size() - (lot.nextInt(5) == 0 ? 1 : 0); i++) due("tell", rows.get(i) + (i == wrong ? 1 : 0));
        if (lot.nextInt(5) == 0) due("tell", 0);
        due("check", n);
    }

    private void run() throws Exception {
        for (int r = 0; r < 10; r++) {
            if (lot.nextInt(4) > 0) due("room", r, 1, lot.nextInt(10));
            if (lot.nextInt(4) > 0) due("room", r, 0, lot.nextInt(10));
        }
        if (lot.nextInt(4) > 0) due("watch", lot.nextInt(101));
        if (lot.nextInt(8) > 0) due("deal", of(1, 12));
        int often = lot.nextInt(5) == 0 ? 4 : 40;
        while (calls.size() < CALLS - 90) {
            int by = lot.nextInt(often);
            if (by == 0) tellText();
            else if (by == 1) tellHours();
            else if (by == 2 && lot.nextInt(4) == 0) for (int i = 0; i < 9; i++) due("feed", argsOf("feed"));
            else {
                String name = pick(lot, names.toArray(new String[0]));
                due(name, argsOf(name));
            }
        }
        for (int what = 0; what <= 6; what++) due("count", what);
        for (int what = 0; what <= 5; what++) due("house", what);
        for (int r = 0; r < 10; r++) due("sweep", r);
    }

    private static void wasMet(String name, int... findings) {
        for (int f : findings) {
            if (!REFUSED.getOrDefault(name, new HashSet<>()).contains(f)) throw new AssertionError("no run had " + f + " of " + name);
        }
    }

    public static void main(String[] args) throws Exception {
        for (int run = 0; run < RUNS; run++) new RandomTest(run).run();
        wasMet("dancer", SoleWear.BAD, SoleWear.FULL);
        wasMet("to", SoleWear.BAD, SoleWear.NONE);
        wasMet("meets", SoleWear.BAD, SoleWear.NONE);
        wasMet("through", SoleWear.NONE);
        wasMet("whose", SoleWear.BAD, SoleWear.NOTHING, SoleWear.NONE);
        wasMet("feed", SoleWear.FULL);
        wasMet("text", SoleWear.FULL);
        wasMet("copy", SoleWear.BAD, SoleWear.NOTHING, SoleWear.KIND, SoleWear.INDEX);
        wasMet("item", SoleWear.BAD, SoleWear.NOTHING, SoleWear.KIND, SoleWear.INDEX);
        wasMet("check", SoleWear.BAD, SoleWear.NO);
        System.out.println(RUNS + " runs by lot: all answers are as due");
    }
}
