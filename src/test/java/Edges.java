import java.lang.reflect.InvocationTargetException;
import java.lang.reflect.Method;
import java.util.ArrayList;
import java.util.Arrays;
import java.util.Comparator;
import java.util.List;

/** What the tests of edges share: calls that are due, calls that are refused, and all that an object tells of itself. */
final class Edges {
    static final int BAD = SoleWear.BAD, NO = SoleWear.NO, FULL = SoleWear.FULL, NONE = SoleWear.NONE;
    static final int NOTHING = SoleWear.NOTHING, KIND = SoleWear.KIND, INDEX = SoleWear.INDEX, SIZE = SoleWear.SIZE;
    static final int LEAST = Integer.MIN_VALUE, MOST = Integer.MAX_VALUE;

    interface Making { SoleWear made(); }

    interface Call { int on(SoleWear x); }

    interface CallWith { int on(SoleWear x, int v); }

    private static int looked = 0;
    private static int wrong = 0;
    private static String about = "";

    private Edges() { }

    static int looked() {
        return looked;
    }

    static int wrong() {
        return wrong;
    }

    /** Runs every test of a class, by name; their names begin with the promise. */
    static List<String> runAll(Class<?> tests) throws IllegalAccessException, InvocationTargetException {
        Method[] methods = tests.getDeclaredMethods();
        Arrays.sort(methods, Comparator.comparing(Method::getName));
        List<String> names = new ArrayList<>();
        for (Method m : methods) {
            if (!m.getName().matches("promise[0-9][0-9][A-Z]\\w*")) continue;
            about = m.getName();
            int before = looked;
            m.invoke(null);
            note(looked > before, "looks at nothing");
            names.add(about);
        }
        return names;
    }

    private static void note(boolean is, String what) {
        if (is) return;
        wrong++;
        System.out.println(about + ": " + what);
    }

    static void due(String call, int got, int want) {
        looked++;
        note(got == want, call + " answered " + got + ", due is " + want);
    }

    // ---- refused calls

    /** The call is refused with this answer, and the object is as without it. */
    static void refused(int answer, Making making, Call call) {
        SoleWear x = making.made();
        due("the refused call", call.on(x), answer);
        due("what is otherwise behind a refused call", otherwise(x, making.made()), -1);
    }

    static void refused(int answer, Call call) {
        refused(answer, Edges::lived, call);
    }

    /** The call is no refusal, and yet changes nothing. */
    static void onlyThought(Making making, Call call) {
        SoleWear x = making.made();
        call.on(x);
        due("what is otherwise behind a thought", otherwise(x, making.made()), -1);
    }

    /** The last numbers that are taken on both sides; the first that are refused there, and those farthest off. */
    static void range(int least, int most, Making making, CallWith call) {
        for (int v : new int[] {least, most}) due(v + " is refused", call.on(making.made(), v) == BAD ? 1 : 0, 0);
        for (int v : new int[] {least - 1, most + 1, LEAST, MOST}) refused(BAD, making, x -> call.on(x, v));
    }

    static void range(int least, int most, CallWith call) {
        range(least, most, Edges::lived, call);
    }

    /** Both calls leave their object alike. */
    static void alike(Making making, Call one, Call other) {
        SoleWear x = making.made();
        SoleWear y = making.made();
        one.on(x);
        other.on(y);
        due("what is otherwise behind the two", otherwise(x, y), -1);
    }

    private static int otherwise(SoleWear x, SoleWear y) {
        int[] of = all(x);
        int[] as = all(y);
        for (int i = 0; i < of.length; i++) {
            if (i >= as.length || of[i] != as[i]) return i;
        }
        return of.length == as.length ? -1 : of.length;
    }

    // ---- objects

    /** Rooms 0 to 9 in one ring: each leads to the next one. */
    static SoleWear ring() {
        SoleWear x = new SoleWear();
        for (int r = 0; r < 10; r++) x.room(r, 1, (r + 1) % 10);
        return x;
    }

    /** An object with something of all: an image that is otherwise, texts, a tape, sheets, slots, numbers that wait. */
    static SoleWear lived() {
        SoleWear x = ring();
        x.room(4, 0, 7);
        x.room(2, 0, 0);
        x.dancer(0, 0, 400, 3);
        x.dancer(4, 5, 300, 4);
        text(x, "wear f+1");
        text(x, "fee s*10+l");
        text(x, "fine s-d");
        x.watch(70);
        x.hours(5);
        x.keep();
        tellAnHour(x);
        x.hours(1);
        x.tell(x.house(3));
        x.dancer(3, 2, 200, 1);
        x.room(3, 0, 9);
        x.watch(60);
        text(x, "fee l");
        x.seed(77);
        row(x, 0, 0, 5, -6, 7);
        row(x, 1, 1, 8, NONE, 99999, -3);
        row(x, 3, 1);
        x.lay(1, 1, 1);
        x.lay(2, 2, 1);
        x.lay(3, 3, 17);
        x.lay(4, 2, 0);
        tape(x, "fine s*9+d");
        return x;
    }

    /** As lived, with as many dancers as can be. */
    static SoleWear crowded() {
        SoleWear x = lived();
        x.deal(12);
        return x;
    }

    /** The last hour has come; the rooms are a ring, dancer 0 goes one room an hour and dancer 1 stays at room 5. */
    static SoleWear atTheLastHour() {
        SoleWear x = ring();
        for (int i = 0; i < 100; i++) x.hours(100);
        x.dancer(0, 0, 300, 1);
        x.dancer(0, 5, 300, 0);
        return x;
    }

    static void tellAnHour(SoleWear x) {
        x.hours(1);
        x.tell(x.house(3));
        x.tell(x.house(0));
    }

    static void row(SoleWear x, int sheet, int sort, int... places) {
        x.sheet(sheet, sort, places.length);
        for (int i = 0; i < places.length; i++) x.mark(sheet, i, places[i]);
    }

    static int[] ofSheet(SoleWear x, int sheet, int size) {
        x.lay(0, 2, sheet);
        int[] places = new int[size];
        for (int i = 0; i < size; i++) places[i] = x.item(0, i);
        return places;
    }

    /** The tape becomes these bytes. */
    static void tape(SoleWear x, String bytes) {
        x.trim(0);
        for (int i = 0; i < bytes.length(); i += 12) {
            int[] fed = new int[3];
            for (int k = 0; k < 12; k++) fed[k / 4] = fed[k / 4] << 8 | (i + k < bytes.length() ? bytes.charAt(i + k) : ' ');
            x.feed(fed[0], fed[1], fed[2]);
        }
        x.trim(bytes.length());
    }

    static int text(SoleWear x, String bytes) {
        tape(x, bytes);
        return x.text();
    }

    // ---- draws

    static int nextZ(int z) {
        return (int) (z * 1103515245L + 12345L);
    }

    static int drawn(int z) {
        return (int) (Integer.toUnsignedLong(z) / 256);
    }

    /** A z whose draw, behind so many others, has this rest. */
    static int zWithRest(int behind, int by, int rest) {
        for (int first = 1; first < 1000000; first++) {
            int z = first;
            for (int i = 0; i <= behind; i++) z = nextZ(z);
            if (drawn(z) % by == rest) return first;
        }
        throw new AssertionError("no draw by " + by + " has the rest " + rest);
    }

    /** A z by which a watcher who always looks, looks at these rooms, hour by hour. */
    static int zLookingAt(int... rooms) {
        for (int first = 1; first < 1000000; first++) {
            int z = first;
            int right = 0;
            while (right < rooms.length) {
                z = nextZ(nextZ(z));
                if (drawn(z) % 10 != rooms[right]) break;
                right++;
            }
            if (right == rooms.length) return first;
        }
        throw new AssertionError("no z looks there");
    }

    // ---- all that an object tells of itself (it is not the same behind that)

    private static int[] all(SoleWear x) {
        List<Integer> told = new ArrayList<>();
        addState(x, told, true);
        addTape(x, told);
        told.add(x.check(2));
        for (int slot = 0; slot < 5; slot++) addSlot(x, slot, told);
        for (int sheet = 0; sheet < 4; sheet++) addSheet(x, sheet, told);
        told.add(x.back());
        addState(x, told, false);
        return told.stream().mapToInt(Integer::intValue).toArray();
    }

    private static void addState(SoleWear x, List<Integer> told, boolean isWhole) {
        for (int what = 0; what <= 6; what++) told.add(x.count(what));
        for (int what = 0; what <= 5; what++) told.add(x.house(what));
        int dancers = x.count(0);
        for (int d = 0; d < dancers; d++) {
            for (int what = 0; what <= (isWhole ? 8 : 4); what++) told.add(x.told(d, what));
        }
        told.add(x.fee());
        told.add(x.fine(0));
        for (int key = 0; key < 3; key++) told.add(x.why(key));
        for (int t = 0; t < 14; t++) told.add(x.textTold(t, 0) * 100 + x.textTold(t, 1));
        for (int r = 0; r < 10; r++) {
            told.add(x.room(r, 0, 1));
            told.add(x.room(r, 1, r));
            told.add(x.sweep(r));
        }
    }

    private static void addTape(SoleWear x, List<Integer> told) {
        told.add(x.text());
        told.add(x.fine(0));
        told.add(x.why(2));
    }

    private static void addSlot(SoleWear x, int slot, List<Integer> told) {
        told.add(x.ask(slot, 0));
        told.add(x.rest(slot, 1000003));
        for (int place = 0; place < 5; place++) told.add(x.item(slot, place));
    }

    private static void addSheet(SoleWear x, int sheet, List<Integer> told) {
        told.add(x.lay(0, 2, sheet));
        for (int place = 0; place < 5; place++) told.add(x.item(0, place));
        told.add(x.mark(sheet, 0, NONE));
    }
}
