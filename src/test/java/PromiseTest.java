/** Each promise by itself, with answers worked out by hand from the document. */
public final class PromiseTest {
    private static final int BAD = SoleWear.BAD, NO = SoleWear.NO, FULL = SoleWear.FULL, NONE = SoleWear.NONE;
    private static final int NOTHING = SoleWear.NOTHING, KIND = SoleWear.KIND, INDEX = SoleWear.INDEX, SIZE = SoleWear.SIZE;
    private static final int LEAST = Integer.MIN_VALUE, MOST = Integer.MAX_VALUE;

    private static int wrong = 0;
    private static int looked = 0;
    private static String about = "";

    private static void due(String call, int got, int want) {
        looked++;
        if (got == want) return;
        wrong++;
        System.out.println(about + ": " + call + " answered " + got + ", due is " + want);
    }

    private static void feed(SoleWear x, String words) {
        due("trim(0)", x.trim(0), 0);
        for (int i = 0; i < words.length(); i += 12) {
            int[] fed = new int[3];
            for (int k = 0; k < 12; k++) fed[k / 4] = fed[k / 4] << 8 | (i + k < words.length() ? words.charAt(i + k) : ' ');
            x.feed(fed[0], fed[1], fed[2]);
        }
        due("trim", x.trim(words.length()), words.length());
    }

    private static int text(SoleWear x, String words) {
        feed(x, words);
        return x.text();
    }

    private static void row(SoleWear x, int sheet, int sort, int... places) {
        due("sheet", x.sheet(sheet, sort, places.length), places.length);
        for (int i = 0; i < places.length; i++) due("mark", x.mark(sheet, i, places[i]), 1);
    }

    /** Rooms 0 to 9 in one ring: each leads to the next one. */
    private static SoleWear ring() {
        SoleWear x = new SoleWear();
        for (int r = 0; r < 10; r++) x.room(r, 1, (r + 1) % 10);
        return x;
    }

    private static void aNewObject() {
        SoleWear x = new SoleWear();
        int[] counts = {0, 0, 0, 0, 0, 0, 1};
        for (int what = 0; what < 7; what++) due("count(" + what + ")", x.count(what), counts[what]);
        for (int what = 0; what < 6; what++) due("house(" + what + ")", x.house(what), 0);
        for (int r = 0; r < 10; r++) {
            due("room(" + r + ", 0)", x.room(r, 0, 1), 1);
            due("room(" + r + ", 1)", x.room(r, 1, r), r);
            due("sweep(" + r + ")", x.sweep(r), 0);
            due("at(" + r + ")", x.at(r), 0);
        }
        for (int s = 0; s < 4; s++) due("reads(" + s + ")", x.reads(s), NOTHING);
        for (int s = 0; s < 5; s++) due("rest(" + s + ")", x.rest(s, 1), NOTHING);
        for (int k = 0; k < 3; k++) due("why(" + k + ")", x.why(k), NONE);
        due("fee()", x.fee(), 0);
        due("back()", x.back(), NO);
        due("told(0, 0)", x.told(0, 0), BAD);
    }

    private static void dancer() {
        SoleWear x = new SoleWear();
        due("first", x.dancer(5, 9, 999, 5), 0);
        due("second", x.dancer(0, 0, 0, 0), 1);
        int[] first = {5, 9, 999, 5, 0};
        for (int what = 0; what < 5; what++) due("told(0, " + what + ")", x.told(0, what), first[what]);
        int[][] bad = {{-1, 0, 0, 0}, {6, 0, 0, 0}, {0, -1, 0, 0}, {0, 10, 0, 0}, {0, 0, -1, 0}, {0, 0, 1000, 0}, {0, 0, 0, -1}, {0, 0, 0, 6}, {LEAST, MOST, LEAST, MOST}};
        for (int[] b : bad) due("dancer bad", x.dancer(b[0], b[1], b[2], b[3]), BAD);
        due("count", x.count(0), 2);
        for (int d = 2; d < 12; d++) due("dancer", x.dancer(0, 1, 2, 3), d);
        due("full", x.dancer(0, 1, 2, 3), FULL);
        due("bad ahead of full", x.dancer(6, 1, 2, 3), BAD);
        due("count", x.count(0), 12);
    }

    private static void told() {
        SoleWear x = new SoleWear();
        // Sole 100, steps 1 and 4, floor 7 and 1: what each kind goes, wears, leaves, is worth.
        int[] goesOne = {1, 0, 1, 2, 0, 1}, goesFour = {4, 3, 4, 5, 2, 4};
        int[] wearsSeven = {7, 3, 14, 2, 17, 8}, wearsOne = {1, 0, 2, 0, 5, 2};
        int[] leavesFive = {1, 1, 2, 0, 2, 1}, leavesFour = {0, 0, 1, 0, 1, 0};
        int[] worth = {100, 108, 899, 216, 892, 12};
        for (int k = 0; k < 6; k++) due("dancer", x.dancer(k, 3, 100, 1), k);
        for (int k = 0; k < 6; k++) {
            x.room(3, 0, 7);
            due("goes 1 kind " + k, x.told(k, 5), goesOne[k]);
            due("wears 7 kind " + k, x.told(k, 6), wearsSeven[k]);
            due("worth kind " + k, x.told(k, 8), worth[k]);
            x.room(3, 0, 1);
            due("wears 1 kind " + k, x.told(k, 6), wearsOne[k]);
            x.room(3, 0, 0);
            due("wears 0 kind " + k, x.told(k, 6), k == 4 ? 3 : k == 5 ? 1 : 0);
            x.room(3, 0, 5);
            due("leaves 5 kind " + k, x.told(k, 7), leavesFive[k]);
            x.room(3, 0, 4);
            due("leaves 4 kind " + k, x.told(k, 7), leavesFour[k]);
            x.set(k, 3, 4);
            due("goes 4 kind " + k, x.told(k, 5), goesFour[k]);
            x.set(k, 3, 0);
            due("goes 0 kind " + k, x.told(k, 5), k == 3 ? 2 : 0);
            x.set(k, 2, 0);
            x.set(k, 3, 5);
            due("goes barefoot kind " + k, x.told(k, 5), 0);
        }
        for (int what : new int[] {-1, 9, LEAST, MOST}) due("told(0, " + what + ")", x.told(0, what), BAD);
        for (int d : new int[] {-1, 6, LEAST, MOST}) due("told(" + d + ", 0)", x.told(d, 0), BAD);
        x.set(4, 2, 999);
        due("worth of a heeled one", x.told(4, 8), -7);
    }

    private static void theTwelfthHour() {
        SoleWear x = new SoleWear();
        x.dancer(5, 0, 999, 0);
        x.room(0, 0, 0);
        due("hours(11)", x.hours(11), 0);
        due("goes at 11", x.told(0, 5), 1);
        due("behind 1, marks", x.behind(1, 1), 0);
        due("hours(1)", x.hours(1), 1);
        due("goes at 12", x.told(0, 5), 0);
        due("danced", x.told(0, 4), 1);
        due("sole", x.told(0, 2), 998);
        due("hours(24)", x.hours(24), 2);
    }

    private static void as() {
        // Which kinds (as bits) each kind is one of.
        int[] of = {0b000001, 0b000011, 0b000101, 0b001011, 0b010101, 0b100001};
        SoleWear x = new SoleWear();
        for (int k = 0; k < 6; k++) {
            x.dancer(k, 0, 40 + k, 0);
            for (int a = 0; a < 6; a++) due("as(" + k + ", " + a + ")", x.as(k, a), (of[k] >> a & 1) == 1 ? 40 + k : KIND);
        }
        due("as(0, -1)", x.as(0, -1), BAD);
        due("as(0, 6)", x.as(0, 6), BAD);
        due("as(6, 0)", x.as(6, 0), BAD);
        due("as(-1, 0)", x.as(-1, 0), BAD);
    }

    private static void turns() {
        SoleWear x = new SoleWear();
        x.dancer(2, 0, 40, 1);
        due("turns(0, 5)", x.turns(0, 5), 2);
        due("kind", x.told(0, 0), 5);
        due("worth", x.told(0, 8), 12);
        due("turns(0, 5)", x.turns(0, 5), 5);
        for (int bad : new int[] {-1, 6, MOST}) due("turns(0, bad)", x.turns(0, bad), BAD);
        for (int bad : new int[] {-1, 1, MOST}) due("turns(bad, 0)", x.turns(bad, 0), BAD);
        due("kind", x.told(0, 0), 5);
    }

    private static void set() {
        SoleWear x = new SoleWear();
        x.dancer(0, 1, 2, 3);
        due("at", x.set(0, 1, 9), 1);
        due("sole", x.set(0, 2, 999), 2);
        due("steps", x.set(0, 3, 5), 3);
        due("at", x.set(0, 1, 0), 9);
        due("sole", x.set(0, 2, 0), 999);
        due("steps", x.set(0, 3, 0), 5);
        int[][] bad = {{0, 1, 10}, {0, 1, -1}, {0, 2, 1000}, {0, 2, -1}, {0, 3, 6}, {0, 3, -1}, {0, 0, 1}, {0, 4, 1}, {1, 1, 1}, {-1, 1, 1}};
        for (int[] b : bad) due("set bad", x.set(b[0], b[1], b[2]), BAD);
        int[] now = {0, 0, 0, 0, 0};
        for (int what = 0; what < 5; what++) due("told", x.told(0, what), now[what]);
    }

    private static void room() {
        SoleWear x = new SoleWear();
        due("floor", x.room(9, 0, 9), 1);
        due("floor", x.room(9, 0, 0), 9);
        due("leads", x.room(9, 1, 0), 9);
        due("leads", x.room(9, 1, 9), 0);
        int[][] bad = {{-1, 0, 0}, {10, 0, 0}, {0, -1, 0}, {0, 2, 0}, {0, 0, -1}, {0, 0, 10}, {0, 1, -1}, {0, 1, 10}, {MOST, LEAST, MOST}};
        for (int[] b : bad) due("room bad", x.room(b[0], b[1], b[2]), BAD);
        due("floor", x.room(0, 0, 1), 1);
        due("leads", x.room(0, 1, 0), 0);
    }

    private static void sweep() {
        SoleWear x = ring();
        x.dancer(2, 0, 99, 3);
        x.hours(1);
        due("marks", x.house(2), 3);
        due("sweep(2)", x.sweep(2), 1);
        due("sweep(2)", x.sweep(2), 0);
        due("marks", x.house(2), 2);
        due("sweep(-1)", x.sweep(-1), BAD);
        due("sweep(10)", x.sweep(10), BAD);
    }

    private static void watch() {
        SoleWear x = new SoleWear();
        due("watch(100)", x.watch(100), 0);
        due("watch(-1)", x.watch(-1), BAD);
        due("watch(101)", x.watch(101), BAD);
        due("count(2)", x.count(2), 100);
        due("watch(0)", x.watch(0), 100);
    }

    private static void whoLooksWhere() {
        // The first draws of z = 1 are 4310654, 9862832, 2589156, 12872603, 16337887.
        int[][] byWatch = {{54, 0, 0, 662824084, 1, 0}, {55, 1, 1, 662824084, 1, 1}, {100, 1, 1, -999580867, 2, 3}};
        for (int[] w : byWatch) {
            SoleWear x = new SoleWear();
            x.dancer(0, 2, 9, 0);
            x.dancer(0, 3, 9, 0);
            x.dancer(0, 3, 9, 0);
            x.watch(w[0]);
            x.hours(1);
            due("looked by " + w[0], x.house(1), w[1]);
            due("seen by " + w[0], x.house(0), w[2]);
            x.hours(1);
            due("z by " + w[0], x.count(6), w[3]);
            due("looked by " + w[0], x.house(1), w[4]);
            due("seen by " + w[0], x.house(0), w[5]);
        }
    }

    private static void at() {
        SoleWear x = new SoleWear();
        for (int d = 0; d < 12; d++) x.dancer(0, d % 2 == 0 ? 9 : 0, 9, 0);
        due("at(9)", x.at(9), 0b010101010101);
        due("at(0)", x.at(0), 0b101010101010);
        due("at(1)", x.at(1), 0);
        due("at(-1)", x.at(-1), BAD);
        due("at(10)", x.at(10), BAD);
    }

    private static void roundAndTo() {
        SoleWear x = ring();
        due("round(7)", x.round(7), 10);
        due("to(3, 2)", x.to(3, 2), 9);
        due("to(3, 3)", x.to(3, 3), 0);
        due("to(9, 0)", x.to(9, 0), 1);
        x.room(9, 1, 8);
        due("round(0)", x.round(0), 2);
        due("round(9)", x.round(9), 2);
        due("to(9, 0)", x.to(9, 0), NONE);
        due("to(0, 9)", x.to(0, 9), 9);
        x.room(9, 1, 9);
        due("round(0)", x.round(0), 1);
        x.room(2, 1, 0);
        due("round(1)", x.round(1), 3);
        due("round(5)", x.round(5), 1);
        for (int bad : new int[] {-1, 10, LEAST, MOST}) {
            due("round bad", x.round(bad), BAD);
            due("to(bad, 0)", x.to(bad, 0), BAD);
            due("to(0, bad)", x.to(0, bad), BAD);
        }
    }

    private static void deal() {
        SoleWear x = new SoleWear();
        due("deal(1)", x.deal(1), 1);
        int[] drawn = {2, 2, 157, 5, 0};
        for (int what = 0; what < 5; what++) due("told(0, " + what + ")", x.told(0, what), drawn[what]);
        due("z behind four draws", x.count(6), -999580867);
        due("deal(0)", x.deal(0), BAD);
        due("deal(13)", x.deal(13), BAD);
        due("deal(-1)", x.deal(-1), BAD);
        due("deal(12)", x.deal(12), 11);
        int z = x.count(6);
        due("deal(12) with no room", x.deal(12), 0);
        due("deal(13) with no room", x.deal(13), BAD);
        due("no draws for others", x.count(6), z);
        x = new SoleWear();
        due("deal(12)", x.deal(12), 12);
        due("deal is one by one", x.count(6), z);
    }

    private static void seed() {
        SoleWear x = new SoleWear();
        due("seed(-1)", x.seed(-1), 1);
        due("count(6)", x.count(6), -1);
        x.hours(1);
        due("z behind a draw", x.count(6), -1103502900);
        due("seed", x.seed(LEAST), -1103502900);
        due("seed", x.seed(MOST), LEAST);
    }

    private static void hours() {
        SoleWear x = ring();
        x.room(1, 0, 4);
        x.room(2, 0, 5);
        x.room(3, 0, 9);
        x.dancer(0, 0, 16, 5);
        x.dancer(2, 0, 999, 2);
        // Dancer 0 wears 4, 5 and 9 (only 7 are left): three rooms; dancer 1 wears 8 and 10.
        due("hours(1)", x.hours(1), 5);
        due("at", x.told(0, 1), 3);
        due("sole", x.told(0, 2), 0);
        due("danced", x.told(0, 4), 3);
        due("sole", x.told(1, 2), 981);
        due("barefoot", x.house(4), 1);
        due("marks", x.house(2), 0 + 1 + 1 + 1 + 2);
        due("rooms with marks", x.house(5), 0b1110);
        due("marks of 1", x.sweep(1), 1);
        due("marks of 2", x.sweep(2), 3);
        due("marks of 3", x.sweep(3), 1);
        due("hours(1)", x.hours(1), 2);
        due("danced", x.told(1, 4), 4);
        due("the hour", x.count(1), 2);
        x.room(9, 0, 9);
        x.set(1, 1, 8);
        due("hours(1)", x.hours(1), 2);
        due("marks of the first room", x.house(5), 1 << 0 | 1 << 3 | 1 << 4 | 1 << 9);
        due("marks", x.house(2), 2 + 1 + 2 + 1);
        due("hours(0)", x.hours(0), BAD);
        due("hours(101)", x.hours(101), BAD);
        due("hours(-1)", x.hours(-1), BAD);
        due("the hour", x.count(1), 3);
    }

    private static void twelveDancers() {
        SoleWear x = ring();
        for (int d = 0; d < 12; d++) x.dancer(0, 0, 100 + d, 1);
        due("hours(1)", x.hours(1), 12);
        due("at(1)", x.at(1), 0b111111111111);
        due("soles", x.house(3), 1200 + 66 - 12);
        due("barefoot", x.house(4), 0);
        due("behind(100, 2)", x.behind(100, 2), 0b11);
        due("behind(1, 14)", x.behind(1, 14), 2);
        due("post(1, 1)", x.post(1, 1), 12);
        due("meets", x.meets(0, 11, 0), 0);
        due("mended", x.mended(1, 1), 1200 + 66 - 12);
        row(x, 0, 0, 999);
        due("whose", x.whose(0, 0), 11);
        due("whose", x.whose(0, 1), 999 - 110);
        x.keep();
        tellAll(x, 1200 + 66 - 24, 0);
        due("check", x.check(1), 0);
    }

    private static void theLastHour() {
        SoleWear x = ring();
        x.room(0, 1, 0);
        x.room(0, 0, 0);
        x.dancer(0, 0, 1, 1);
        for (int i = 0; i < 99; i++) due("hours(100)", x.hours(100), 100);
        due("hours(98)", x.hours(98), 98);
        x.watch(100);
        due("keep", x.keep(), 1);
        due("hours(100)", x.hours(100), 1);
        due("the hour", x.count(1), 9999);
        due("hours(100)", x.hours(100), 0);
        due("danced", x.told(0, 4), 9999);
        int z = x.count(6);
        due("hours(1)", x.hours(1), 0);
        due("z stays", x.count(6), z);
        // What is only thought knows no last hour.
        x.room(0, 1, 1);
        due("behind(1, 3)", x.behind(1, 3), 1);
        due("behind(1, 2)", x.behind(1, 2), 1);
        due("through()", x.through(), 1);
        // The image stands at 9998: only one of the hours told is left.
        int seen = x.house(0);
        x.tell(1);
        x.tell(seen);
        due("check(30)", x.check(30), 0);
        x.tell(1);
        x.tell(seen);
        x.tell(1);
        due("check(30), one too many", x.check(30), 3);
        x.room(0, 1, 0);
        due("keep", x.keep(), 1);
        due("check of no hours", x.check(1), 0);
        x.tell(1);
        due("check of no hours, one too many", x.check(1), 1);
    }

    private static void house() {
        SoleWear x = new SoleWear();
        x.dancer(0, 2, 0, 5);
        x.dancer(0, 2, 30, 0);
        x.dancer(0, 3, 12, 0);
        x.watch(100);
        x.hours(1);
        int[] all = {2, 1, 0, 42, 1, 0};
        for (int what = 0; what < 6; what++) due("house(" + what + ")", x.house(what), all[what]);
        due("house(-1)", x.house(-1), BAD);
        due("house(6)", x.house(6), BAD);
    }

    private static void behind() {
        SoleWear x = ring();
        due("behind(0, 3) with no dancers", x.behind(0, 3), BAD);
        x.dancer(0, 0, 8, 1);
        x.dancer(2, 1, 7, 2);
        x.watch(100);
        // The rooms that are looked at by z = 1: 2, 3, 6 (7, 0, 6 follow as other draws).
        due("behind(0, 0)", x.behind(0, 0), 0);
        due("behind(0, 1)", x.behind(0, 1), 0);
        due("behind(0, 2)", x.behind(0, 2), 0);
        due("behind(0, 3)", x.behind(0, 3), 0);
        due("behind(0, 4)", x.behind(0, 4), 1);
        due("behind(1, 4)", x.behind(1, 4), 3);
        due("behind(1, 1)", x.behind(1, 1), 2);
        due("behind(2, 4)", x.behind(2, 4), 5);
        due("behind(2, 2)", x.behind(2, 2), 2);
        due("behind(2, 1)", x.behind(2, 1), 4);
        due("behind(3, 3)", x.behind(3, 3), 3);
        due("behind(100, 2)", x.behind(100, 2), 3);
        due("behind(100, 3)", x.behind(100, 3), 8);
        x.set(0, 1, 1);
        due("behind(1, 0)", x.behind(1, 0), 1);
        due("behind(2, 0)", x.behind(2, 0), 2);
        due("nothing changes", x.count(6), 1);
        due("nothing changes", x.count(1), 0);
        due("nothing changes", x.house(1), 0);
        due("nothing changes", x.told(0, 4), 0);
        int[][] bad = {{-1, 0}, {101, 0}, {0, -1}, {0, 5}, {0, LEAST}, {0, MOST}};
        for (int[] b : bad) due("behind bad", x.behind(b[0], b[1]), BAD);
    }

    private static void through() {
        SoleWear x = ring();
        due("no dancers", x.through(), NONE);
        x.dancer(0, 0, 0, 5);
        x.dancer(0, 0, 200, 1);
        due("at the edge", x.through(), 200);
        x.set(1, 2, 201);
        due("behind the edge", x.through(), NONE);
        x.dancer(2, 0, 7, 1);
        due("the first", x.through(), 4);
        x.dancer(2, 0, 8, 1);
        due("two at once", x.through(), 4);
        due("nothing changes", x.told(3, 2), 8);
    }

    private static void post() {
        SoleWear x = ring();
        due("no dancers", x.post(60, 0), 0);
        due("no dancers", x.post(60, 1), 0);
        x.dancer(0, 5, 999, 1);
        due("of several the least", x.post(3, 0), 6);
        due("of several the least", x.post(3, 1), 1);
        due("round the ring", x.post(10, 0), 0);
        due("round the ring", x.post(11, 0), 6);
        due("round the ring", x.post(11, 1), 2);
        x.dancer(0, 7, 9, 0);
        due("one who stays", x.post(3, 0), 7);
        due("one who stays", x.post(3, 1), 4);
        for (int r = 0; r < 10; r++) {
            x.set(1, 1, r);
            due("one who stays at " + r, x.post(60, 0), r);
        }
        due("one who stays", x.post(60, 1), 66);
        int[][] bad = {{0, 0}, {61, 0}, {-1, 0}, {1, -1}, {1, 2}};
        for (int[] b : bad) due("post bad", x.post(b[0], b[1]), BAD);
    }

    private static void began() {
        SoleWear x = ring();
        x.dancer(0, 5, 999, 2);
        due("began(0, 0)", x.began(0, 0), 1 << 5);
        due("began(0, 1)", x.began(0, 1), 1 << 3);
        due("began(0, 3)", x.began(0, 3), 1 << 9);
        x.room(1, 1, 3);
        // From 0 as from 2 it is AT 5 behind four ways; from 1 behind three.
        due("began(0, 2)", x.began(0, 2), 1 << 0);
        x.set(0, 3, 3);
        due("began(0, 1)", x.began(0, 1), 1 << 1 | 1 << 2);
        // A sole of 2 ends behind two ways.
        x.set(0, 2, 2);
        due("began(0, 60)", x.began(0, 60), 1 << 3);
        x.set(0, 2, 0);
        due("barefoot", x.began(0, 60), 1 << 5);
        x.turns(0, 5);
        x.set(0, 2, 999);
        x.set(0, 3, 0);
        x.room(1, 1, 2);
        due("a twelfth one", x.began(0, 12), 1 << 4);
        due("a twelfth one", x.began(0, 11), 1 << 5);
        due("nothing changes", x.told(0, 1), 5);
        int[][] bad = {{-1, 1}, {1, 1}, {0, -1}, {0, 61}};
        for (int[] b : bad) due("began bad", x.began(b[0], b[1]), BAD);
    }

    private static void mended() {
        SoleWear x = ring();
        due("no dancers", x.mended(60, 0), 0);
        due("no dancers", x.mended(60, 1), 0);
        x.dancer(0, 0, 100, 2);
        x.room(2, 0, 6);
        due("the roughest", x.mended(1, 0), 2);
        due("the roughest", x.mended(1, 1), 99);
        x.room(2, 0, 1);
        due("of several the least", x.mended(1, 0), 1);
        due("of several the least", x.mended(1, 1), 99);
        due("all round", x.mended(5, 0), 0);
        due("all round", x.mended(5, 1), 91);
        due("nothing changes", x.room(0, 0, 1), 1);
        int[][] bad = {{0, 0}, {61, 0}, {-1, 0}, {1, -1}, {1, 2}};
        for (int[] b : bad) due("mended bad", x.mended(b[0], b[1]), BAD);
    }

    private static void meets() {
        SoleWear x = ring();
        x.dancer(0, 0, 999, 2);
        x.dancer(0, 5, 999, 1);
        x.dancer(0, 0, 999, 1);
        due("at once", x.meets(0, 2, 0), 0);
        due("behind five", x.meets(0, 1, 5), 5);
        due("behind five", x.meets(1, 0, 100), 5);
        due("not by then", x.meets(0, 1, 4), NONE);
        due("never", x.meets(1, 2, 100), NONE);
        int[][] bad = {{0, 0, 1}, {0, 3, 1}, {3, 0, 1}, {-1, 0, 1}, {0, -1, 1}, {0, 1, -1}, {0, 1, 101}};
        for (int[] b : bad) due("meets bad", x.meets(b[0], b[1], b[2]), BAD);
    }

    private static void leads() {
        SoleWear x = new SoleWear();
        x.dancer(0, 5, 999, 1);
        x.watch(100);
        // The room that is looked at first is 2, then 3.
        x.room(5, 1, 2);
        due("led past", x.leads(5, 1, 0), 0);
        due("led past", x.leads(5, 1, 1), 0);
        x.room(0, 1, 2);
        due("of others", x.leads(0, 1, 0), 0);
        due("of others", x.leads(0, 1, 1), 1);
        // Now 0 leads to 2, which leads to 3; 1 leads to 3 as well.
        x.set(0, 1, 4);
        x.room(4, 1, 4);
        x.room(0, 1, 3);
        x.room(1, 1, 3);
        due("behind two hours", x.leads(4, 2, 0), 3 + 1);
        due("behind two hours", x.leads(4, 2, 1), 0);
        due("nothing changes", x.room(4, 1, 4), 4);
        x.hours(1);
        x.set(0, 1, 3);
        x.hours(1);
        due("seen till now counts", x.leads(4, 1, 1), 1);
        int[][] bad = {{-1, 1, 0}, {10, 1, 0}, {0, 0, 0}, {0, 61, 0}, {0, 1, -1}, {0, 1, 2}};
        for (int[] b : bad) due("leads bad", x.leads(b[0], b[1], b[2]), BAD);
    }

    private static void whose() {
        SoleWear x = ring();
        row(x, 0, 0, 10, 9, 8);
        due("no dancers", x.whose(0, 0), NONE);
        due("missing ahead of no dancers", x.whose(1, 0), NOTHING);
        x.dancer(0, 0, 10, 2);
        x.dancer(0, 0, 10, 1);
        x.dancer(0, 0, 10, 1);
        due("whose", x.whose(0, 0), 1);
        due("whose", x.whose(0, 1), 0);
        row(x, 1, 1, NONE, 11, NONE, -1);
        // Behind one hour and three: 8 and 4; 9 and 7.
        due("numbers alone", x.whose(1, 0), 0);
        due("numbers alone", x.whose(1, 1), 3 + 5);
        row(x, 2, 1);
        due("no places", x.whose(2, 0), 0);
        due("no places", x.whose(2, 1), 0);
        row(x, 2, 1, -99999);
        due("far off", x.whose(2, 1), 100009);
        int[][] bad = {{-1, 0}, {4, 0}, {0, -1}, {0, 2}, {3, 2}};
        for (int[] b : bad) due("whose bad", x.whose(b[0], b[1]), BAD);
        due("missing", x.whose(3, 0), NOTHING);
        due("nothing changes", x.count(1), 0);
    }

    private static void feeAndFine() {
        SoleWear x = ring();
        x.dancer(0, 0, 50, 3);
        x.dancer(0, 2, 7, 0);
        x.watch(100);
        x.hours(2);
        due("seen", x.fee(), 1);
        due("danced", x.fine(0), 6);
        due("danced", x.fine(1), 0);
        due("text", text(x, "fee s*100+l"), 0);
        due("fee", x.fee(), 102);
        due("text", text(x, "fine s*100+d"), 1);
        due("fine", x.fine(0), 4406);
        due("fine", x.fine(1), 700);
        due("text", text(x, "fee 0-s"), 2);
        due("the last one counts", x.fee(), -1);
        for (int bad : new int[] {-1, 2, LEAST, MOST}) due("fine bad", x.fine(bad), BAD);
    }

    private static void wear() {
        SoleWear x = ring();
        x.room(1, 0, 3);
        x.dancer(0, 0, 500, 1);
        due("text", text(x, "wear f*100+s"), 0);
        due("held at most", x.told(0, 6), 99);
        due("text", text(x, "wear f-s"), 1);
        due("held at least", x.told(0, 6), 0);
        due("text", text(x, "wear f*10+d"), 2);
        x.turns(0, 2);
        due("twice", x.told(0, 6), 20);
        x.turns(0, 1);
        due("half", x.told(0, 6), 5);
        x.turns(0, 0);
        // The room counts as danced ahead of the wear: 30 and 1.
        x.hours(1);
        due("sole", x.told(0, 2), 469);
        due("text", text(x, "wear s/100"), 3);
        due("behind", x.behind(2, 1), 0);
        x.hours(2);
        due("sole", x.told(0, 2), 461);
    }

    private static void feedAndTrim() {
        SoleWear x = new SoleWear();
        due("trim(0)", x.trim(0), 0);
        due("trim(1)", x.trim(1), BAD);
        for (int n = 1; n <= 8; n++) due("feed", x.feed(0, -1, 0x41424344), 12 * n);
        due("feed", x.feed(0, 0, 0), FULL);
        due("bytes", x.count(5), 96);
        due("trim(97)", x.trim(97), BAD);
        due("trim(-1)", x.trim(-1), BAD);
        due("trim(96)", x.trim(96), 96);
        due("trim(85)", x.trim(85), 85);
        due("feed", x.feed(0, 0, 0), FULL);
        due("trim(84)", x.trim(84), 84);
        due("feed", x.feed(0, 0, 0), 96);
        due("trim", x.trim(0), 0);
        due("bytes by order", x.feed(0x77656172, 0x20662b73, 0x2a642020), 12);
        due("text", x.text(), 0);
        due("pieces", x.textTold(0, 1), 3);
        // What trim cuts off is gone, from the midst of a word as well.
        feed(x, "wear f*12345");
        due("trim", x.trim(11), 11);
        due("text", x.text(), 1);
        feed(x, "wear fsd");
        due("trim", x.trim(6), 6);
        due("text", x.text(), 2);
        feed(x, "wear f");
        due("trim", x.trim(4), 4);
        due("text", x.text(), -104);
    }

    private static void fault(SoleWear x, String words, int place) {
        due("text of \"" + words + "\"", text(x, words), -100 - place);
        due("the tape is used up", x.count(5), 0);
    }

    private static void gives(int want, String words) {
        SoleWear x = new SoleWear();
        x.dancer(0, 0, 7, 0);
        due("text of \"" + words + "\"", text(x, "fine " + words), 0);
        due("what gives \"" + words + "\"", x.fine(0), want);
    }

    private static void whatTextsGive() {
        gives(7, "s");
        gives(0, "d");
        gives(9999, "9999");
        gives(7, "0007");
        gives(14, "2+3*4");
        gives(20, "(2+3)*4");
        gives(-5, "2-3-4");
        gives(2, "9/2/2");
        gives(-2, "(0-5)/2");
        gives(0, "5/0");
        gives(0, "0/0");
        gives(1, "2<3");
        gives(0, "3<3");
        gives(1, "3=3");
        gives(0, "3>3");
        gives(1, "4>3");
        gives(0, "2=3");
        gives(1, "2+1=3");
        gives(5, "(2<3)+4");
        gives(0, "2<3+4-9");
        gives(1, "2&3");
        gives(0, "2&0");
        gives(1, "0|3");
        gives(1, "2|0");
        gives(0, "0|0");
        gives(1, "1|0&0");
        gives(0, "(1|0)&0");
        gives(1, "0=1|3>2");
        gives(0, "0=1&3>2");
        gives(1, "!0");
        gives(0, "!s");
        gives(1, "!!s");
        gives(1, "!0*1");
        gives(0, "!(1<2)");
        gives(3, " ( 1 + 2 ) ");
        gives(9999 * 9999 * 9999, "9999*9999*9999");
        gives(LEAST, "2*(0-(8192*8192*16))");
        gives(LEAST, "(2*(0-(8192*8192*16)))/(0-1)");
        gives(7, "((((((((s))))))))");
        gives(1, "!!!!!!!!s");
        gives(1, "!!!!((((!!!!((((s))))))))");
        gives(16, "(1)+(2)+(3)+(1)+(2)+(3)+(1)+(1)+(1)+(1)");
        gives(9, "!0+!0+!0+!0+!0+!0+!0+!0+!0");
    }

    private static void faults() {
        SoleWear x = new SoleWear();
        fault(x, "", 0);
        fault(x, "   ", 3);
        fault(x, "wear", 4);
        fault(x, "wear  ", 6);
        fault(x, "weary f", 0);
        fault(x, "  wea f", 2);
        fault(x, "fee2", 3);
        fault(x, "2fee", 0);
        fault(x, "Wear f", 0);
        fault(x, "wear x", 5);
        fault(x, "wear l", 5);
        fault(x, "fee f", 4);
        fault(x, "fee d", 4);
        fault(x, "fine f", 5);
        fault(x, "fine l", 5);
        fault(x, "fine ss", 5);
        fault(x, "fine s s", 7);
        fault(x, "fine s2", 6);
        fault(x, "fine 2s", 6);
        fault(x, "fine 12345", 5);
        fault(x, "fine 1234 5", 10);
        fault(x, "fine 1<2<3", 8);
        fault(x, "fine 1<2=3", 8);
        fault(x, "fine 1<=3", 7);
        fault(x, "fine (1<2", 9);
        fault(x, "fine (1<2 ", 10);
        fault(x, "fine 1)", 6);
        fault(x, "fine ()", 6);
        fault(x, "fine (1))", 8);
        fault(x, "fine -1", 5);
        fault(x, "fine 1+", 7);
        fault(x, "fine 1+*2", 7);
        fault(x, "fine 1!2", 6);
        fault(x, "fine 1\n", 6);
        fault(x, "fine \u00e9", 5);
        fault(x, "fine (((((((((s)))))))))", 13);
        fault(x, "fine ((((((((s)", 15);
        fault(x, "fine !!!!!!!!!s", 13);
        fault(x, "fine !!!!!!!!(!s)", 14);
        fault(x, "fine !(!(!(!(!(!(!(!(!(s", 21);
        fault(x, "fine !(!(!(!(!(!(!(!((s", 21);
        due("no texts", x.count(3), 0);
        // Signs part words as well as blanks do.
        due("text", text(x, "wear(f)"), 0);
        due("text", text(x, "fine!s"), 1);
        due("text", text(x, " fee s "), 2);
        due("text", text(x, "fine 1<2&2<3|s=(d<1)"), 3);
    }

    private static void texts() {
        SoleWear x = new SoleWear();
        due("text", text(x, "fine s"), 0);
        due("text", text(x, "wear f + f * (12 - d)"), 1);
        due("text", text(x, "fee l"), 2);
        due("text", text(x, "fine d"), 3);
        int[] keys = {2, 0, 1, 2}, pieces = {1, 4, 1, 1};
        for (int t = 0; t < 4; t++) {
            due("key of " + t, x.textTold(t, 0), keys[t]);
            due("pieces of " + t, x.textTold(t, 1), pieces[t]);
        }
        int[][] bad = {{-1, 0}, {4, 0}, {0, -1}, {0, 2}, {MOST, LEAST}};
        for (int[] b : bad) due("textTold bad", x.textTold(b[0], b[1]), BAD);
        due("why(0)", x.why(0), 1);
        due("why(1)", x.why(1), 2);
        due("why(2)", x.why(2), 3);
        due("why(-1)", x.why(-1), BAD);
        due("why(3)", x.why(3), BAD);
        for (int t = 4; t < 14; t++) due("text", text(x, "wear 1"), t);
        due("full", text(x, "fee 1"), FULL);
        due("the tape is used up", x.count(5), 0);
        due("why(1)", x.why(1), 2);
        fault(x, "fee", 3);
        due("texts", x.count(3), 14);
        due("why(0)", x.why(0), 13);
    }

    private static void sheet() {
        SoleWear x = new SoleWear();
        due("sheet", x.sheet(0, 0, 24), 24);
        due("sheet", x.sheet(3, 1, 0), 0);
        due("mark", x.mark(0, 23, 5), 1);
        due("mark", x.mark(0, 0, 5), 1);
        due("mark", x.mark(3, 0, 5), INDEX);
        due("anew", x.sheet(0, 1, 24), 24);
        x.lay(0, 2, 0);
        due("all 0", x.item(0, 23), 0);
        due("all 0", x.item(0, 0), 0);
        int[][] bad = {{-1, 0, 1}, {4, 0, 1}, {0, -2, 1}, {0, 2, 1}, {0, 0, 25}, {0, 1, MOST}, {0, 2, -1}, {4, 0, -1}};
        for (int[] b : bad) due("sheet bad", x.sheet(b[0], b[1], b[2]), BAD);
        due("size", x.sheet(0, 0, -1), SIZE);
        due("size", x.sheet(0, 1, LEAST), SIZE);
        due("as it was", x.mark(0, 0, NONE), 1);
        due("missing", x.sheet(0, -1, 99), 0);
        due("missing", x.sheet(0, -1, -99), 0);
        due("missing", x.mark(0, 0, 1), NOTHING);
        due("missing, no such sheet", x.sheet(4, -1, 0), BAD);
    }

    private static void mark() {
        SoleWear x = new SoleWear();
        row(x, 0, 0, 32767, 32768, 65536 + 3, -32769, LEAST);
        x.lay(0, 2, 0);
        int[] kept = {32767, -32768, 3, 32767, 0};
        for (int i = 0; i < 5; i++) due("item " + i, x.item(0, i), kept[i]);
        row(x, 1, 1, 99999, -99999, NONE, 0);
        x.lay(1, 2, 1);
        int[] floats = {99999, -99999, KIND, 0};
        for (int i = 0; i < 4; i++) due("item " + i, x.item(1, i), floats[i]);
        due("sheet", x.mark(4, 0, 1), BAD);
        due("sheet", x.mark(-1, 0, 1), BAD);
        due("missing ahead of index", x.mark(2, 99, 1), NOTHING);
        due("index", x.mark(0, 5, 1), INDEX);
        due("index", x.mark(0, -1, 1), INDEX);
        due("index ahead of kind", x.mark(0, 5, NONE), INDEX);
        due("kind", x.mark(0, 4, NONE), KIND);
        due("floats", x.mark(1, 0, 100000), BAD);
        due("floats", x.mark(1, 0, -100000), BAD);
        due("index ahead of bad", x.mark(1, 4, 100000), INDEX);
        due("a number again", x.mark(1, 2, 8), 1);
        x.lay(1, 2, 1);
        due("item 2", x.item(1, 2), 8);
        due("item 0", x.item(1, 0), 99999);
    }

    private static void pour() {
        SoleWear x = new SoleWear();
        row(x, 0, 1, 1, 0, NONE, 10, -1, 9, 99999);
        due("pour", x.pour(0), 5);
        int[] floors = {1, 0, 1, 9, 0, 9, 9, 1, 1, 1};
        for (int r = 0; r < 10; r++) due("floor " + r, x.room(r, 0, floors[r]), floors[r]);
        due("pour again", x.pour(0), 0);
        row(x, 1, 0, 2, 2, 2, 2, 2, 2, 2, 2, 2, 2, 2, 2);
        due("beyond the rooms", x.pour(1), 10);
        due("sheet", x.pour(-1), BAD);
        due("sheet", x.pour(4), BAD);
        due("missing", x.pour(2), NOTHING);
    }

    private static void reads() {
        SoleWear x = ring();
        x.dancer(2, 0, 99, 3);
        x.hours(1);
        row(x, 0, 0, 0, 1, 1, 1, 0, 0, 0, 0, 0, 0);
        due("as marks", x.reads(0), NONE);
        x.mark(0, 9, 1);
        due("the last room", x.reads(0), 9);
        x.mark(0, 1, 2);
        due("the first", x.reads(0), 1);
        row(x, 1, 1, NONE, 1, NONE, 1, 0, 0, 0, 0, 0, 0, NONE, 0);
        due("no room", x.reads(1), 11);
        x.mark(1, 10, 0);
        due("no room", x.reads(1), 10);
        row(x, 1, 1, 0, 1);
        due("fewer", x.reads(1), NONE);
        row(x, 1, 1);
        due("no places", x.reads(1), NONE);
        due("sheet", x.reads(-1), BAD);
        due("sheet", x.reads(4), BAD);
        due("missing", x.reads(3), NOTHING);
    }

    private static void items(SoleWear x, int sheet, int... want) {
        x.lay(4, 2, sheet);
        for (int i = 0; i < want.length; i++) due("item " + i + " of " + sheet, x.item(4, i), want[i]);
        due("no more items", x.item(4, want.length), INDEX);
    }

    private static void copy() {
        SoleWear x = new SoleWear();
        row(x, 0, 0, 1, 2, 3, 4, 5);
        row(x, 1, 0, 9, 9, 9);
        row(x, 2, 1, NONE, 7);
        due("copy", x.copy(0, 3, 1, 0, 2), 2);
        items(x, 1, 4, 5, 9);
        due("onto itself", x.copy(0, 0, 0, 1, 4), 4);
        items(x, 0, 1, 1, 2, 3, 4);
        due("onto itself", x.copy(0, 1, 0, 0, 4), 4);
        items(x, 0, 1, 2, 3, 4, 4);
        due("no number", x.copy(2, 0, 2, 1, 1), 1);
        items(x, 2, KIND, KIND);
        due("none", x.copy(0, 5, 1, 3, 0), 0);
        due("sheet", x.copy(-1, 0, 0, 0, 1), BAD);
        due("sheet", x.copy(0, 0, 4, 0, 1), BAD);
        due("bad ahead of missing", x.copy(3, 0, 4, 0, 1), BAD);
        due("missing", x.copy(3, 0, 0, 0, 1), NOTHING);
        due("missing", x.copy(0, 0, 3, 9, 1), NOTHING);
        due("kind ahead of index", x.copy(0, 0, 2, 9, 1), KIND);
        int[][] bad = {{0, -1, 1, 0, 1}, {0, 5, 1, 0, 1}, {0, 4, 1, 0, 2}, {0, 0, 1, -1, 1}, {0, 0, 1, 3, 1}, {0, 0, 1, 2, 2}, {0, 6, 1, 0, 0}, {0, 0, 1, 4, 0}, {0, 0, 1, 0, -1}, {0, 1, 1, 1, MOST}, {0, MOST, 1, MOST, MOST}};
        for (int[] b : bad) due("index", x.copy(b[0], b[1], b[2], b[3], b[4]), INDEX);
        items(x, 1, 4, 5, 9);
    }

    private static void lay() {
        SoleWear x = new SoleWear();
        x.dancer(4, 0, 100, 0);
        row(x, 0, 0, 6);
        due("a dancer", x.lay(0, 1, 0), 0);
        due("a sheet", x.lay(0, 2, 0), 1);
        due("a number", x.lay(0, 3, LEAST), 2);
        due("nothing", x.lay(0, 0, MOST), 3);
        due("a dancer", x.lay(0, 1, 0), 0);
        int[][] bad = {{-1, 0, 0}, {5, 0, 0}, {0, -1, 0}, {0, 4, 0}, {0, 1, 1}, {0, 1, -1}, {0, 2, 4}, {0, 2, -1}};
        for (int[] b : bad) due("lay bad", x.lay(b[0], b[1], b[2]), BAD);
        due("missing", x.lay(0, 2, 1), NOTHING);
        due("as it was", x.ask(0, 4), 892);
        due("a sheet", x.lay(4, 2, 0), 0);
        // For good: what comes later does not reach into the slots.
        x.turns(0, 0);
        x.set(0, 2, 1);
        x.mark(0, 0, 7);
        x.sheet(0, -1, 0);
        due("for good", x.ask(0, 4), 892);
        due("as it was then", x.item(4, 0), 6);
    }

    private static void ask() {
        int[] of = {0b000001, 0b000011, 0b000101, 0b001011, 0b010101, 0b100001};
        int[] worth = {100, 108, 899, 216, 892, 12};
        SoleWear x = new SoleWear();
        for (int k = 0; k < 6; k++) {
            x.dancer(k, 0, 100, 0);
            x.lay(0, 1, k);
            for (int a = 0; a < 6; a++) due("ask " + k + " as " + a, x.ask(0, a), (of[k] >> a & 1) == 1 ? worth[k] : KIND);
        }
        due("kind", x.ask(0, -1), BAD);
        due("kind", x.ask(0, 6), BAD);
        due("slot", x.ask(-1, 0), BAD);
        due("slot", x.ask(5, 0), BAD);
        due("bad ahead of nothing", x.ask(1, 6), BAD);
        due("nothing", x.ask(1, 0), NOTHING);
        x.lay(1, 3, 5);
        due("a number", x.ask(1, 0), KIND);
        row(x, 0, 0, 1);
        x.lay(1, 2, 0);
        due("a sheet", x.ask(1, 0), KIND);
    }

    private static void itemAndRest() {
        SoleWear x = new SoleWear();
        row(x, 0, 1, 3, NONE);
        x.dancer(0, 0, 0, 0);
        for (int bad : new int[] {-1, 5, LEAST, MOST}) {
            due("item slot", x.item(bad, 0), BAD);
            due("rest slot", x.rest(bad, 0), BAD);
        }
        due("nothing", x.item(0, 9), NOTHING);
        due("nothing", x.rest(0, 0), NOTHING);
        x.lay(0, 1, 0);
        due("a dancer", x.item(0, 9), KIND);
        due("a dancer", x.rest(0, 0), KIND);
        x.lay(0, 2, 0);
        due("a sheet", x.rest(0, 0), KIND);
        due("item", x.item(0, 0), 3);
        due("no number", x.item(0, 1), KIND);
        due("index", x.item(0, 2), INDEX);
        due("index", x.item(0, -1), INDEX);
        x.lay(0, 3, 17);
        due("a number", x.item(0, 0), KIND);
        due("rest", x.rest(0, 5), 2);
        due("rest", x.rest(0, -5), 2);
        due("by 0", x.rest(0, 0), NO);
        x.lay(0, 3, -17);
        due("rest", x.rest(0, 5), -2);
        x.lay(0, 3, LEAST);
        due("rest", x.rest(0, -1), 0);
    }

    private static void tell() {
        SoleWear x = new SoleWear();
        for (int n = 1; n <= 60; n++) due("tell", x.tell(LEAST + n), n);
        due("tell", x.tell(0), FULL);
        due("count(4)", x.count(4), 60);
    }

    private static void tellAll(SoleWear x, int... told) {
        for (int i = 0; i < told.length; i++) due("tell", x.tell(told[i]), i + 1);
    }

    private static void check() {
        SoleWear x = ring();
        tellAll(x, 1, 2);
        due("no image", x.check(1), NO);
        due("none wait", x.count(4), 0);
        x.dancer(0, 0, 10, 2);
        x.dancer(0, 2, 5, 0);
        x.watch(100);
        x.keep();
        tellAll(x, 1);
        due("bad", x.check(0), BAD);
        due("none wait", x.count(4), 0);
        tellAll(x, 1);
        due("bad", x.check(31), BAD);
        due("none wait", x.count(4), 0);
        // By the image: soles 13, 11, 9; rooms 2, 3, 6 are looked at, with 2, 0, 1 dancers.
        tellAll(x, 13, 2, 11, 2, 9, 3);
        x.set(1, 2, 999);
        x.watch(0);
        due("all told", x.check(3), 0);
        due("none wait", x.count(4), 0);
        tellAll(x, 13, 2, 11, 2, 9);
        due("missing", x.check(3), 6);
        due("none told", x.check(3), 1);
        tellAll(x, 13, 2, 11, 2, 9, 3, 0);
        due("one too many", x.check(3), 7);
        tellAll(x, 12, 2, 11, 2, 9, 3);
        due("the first", x.check(3), 1);
        tellAll(x, 13, 1, 11, 2, 9, 3);
        due("the second", x.check(3), 2);
        tellAll(x, 13, 2, 11, 2, 10, 3);
        due("the last but one", x.check(3), 5);
        tellAll(x, 13, 2, 11, 2, 9, 4);
        due("the last", x.check(3), 6);
        due("nothing changes", x.count(1), 0);
        due("nothing changes", x.house(3), 1009);
        x.back();
        for (int i = 0; i < 30; i++) {
            x.hours(1);
            x.tell(x.house(3));
            x.tell(x.house(0));
        }
        due("check(30)", x.check(30), 0);
    }

    private static void image() {
        SoleWear x = ring();
        due("no image", x.back(), NO);
        due("keep", x.keep(), 0);
        x.dancer(1, 0, 100, 3);
        x.dancer(5, 3, 100, 3);
        x.watch(70);
        due("text", text(x, "wear f+1"), 0);
        due("text", text(x, "fee s+1000"), 1);
        x.hours(7);
        int[] told = new int[18], counts = new int[7], houses = new int[6];
        for (int i = 0; i < 18; i++) told[i] = x.told(i / 9, i % 9);
        for (int i = 0; i < 7; i++) counts[i] = x.count(i);
        for (int i = 0; i < 6; i++) houses[i] = x.house(i);
        int fee = x.fee();
        due("keep", x.keep(), 2);
        row(x, 0, 0, 5);
        x.lay(0, 3, 6);
        for (int again = 0; again < 2; again++) {
            x.turns(0, 4);
            x.set(1, 1, 9);
            x.set(1, 2, 9);
            x.set(1, 3, 1);
            x.deal(5);
            x.room(4, 0, 8);
            x.room(4, 1, 4);
            x.watch(99);
            x.seed(99);
            due("text", text(x, "wear 0"), 2);
            due("text", text(x, "fine 77"), 3);
            due("fine", x.fine(0), 77);
            x.hours(50);
            x.sweep(4);
            x.sweep(5);
            due("tell", x.tell(1), again + 1);
            x.feed(1, 2, 3);
            due("back", x.back(), 2);
            counts[4] = again + 1;
            counts[5] = 12;
            for (int i = 0; i < 18; i++) due("told again " + i, x.told(i / 9, i % 9), told[i]);
            for (int i = 0; i < 7; i++) due("count again " + i, x.count(i), counts[i]);
            for (int i = 0; i < 6; i++) due("house again " + i, x.house(i), houses[i]);
            due("why(0)", x.why(0), 0);
            due("why(2)", x.why(2), NONE);
            due("fee", x.fee(), fee);
            due("textTold", x.textTold(2, 0), BAD);
            due("floor", x.room(4, 0, 1), 1);
            due("leads", x.room(4, 1, 5), 5);
            due("round", x.round(0), 10);
            due("sheets stay", x.reads(0), 0);
            due("slots stay", x.rest(0, 4), 2);
            due("one more dancer", x.dancer(0, 0, 9, 0), 2);
            due("who has not danced", x.told(2, 4), 0);
            x.back();
        }
    }

    private static void count() {
        SoleWear x = new SoleWear();
        x.dancer(0, 0, 1, 0);
        x.dancer(0, 0, 1, 0);
        x.hours(3);
        x.watch(4);
        for (int i = 0; i < 5; i++) text(x, "fee 1");
        for (int i = 0; i < 6; i++) x.tell(0);
        x.feed(0, 0, 0);
        x.seed(8);
        int[] counts = {2, 3, 4, 5, 6, 12, 8};
        for (int what = 0; what < 7; what++) due("count(" + what + ")", x.count(what), counts[what]);
        due("count(-1)", x.count(-1), BAD);
        due("count(7)", x.count(7), BAD);
    }

    private static void all() {
        about = "promise 1"; aNewObject();
        about = "promise 2"; dancer();
        about = "promise 3"; told(); theTwelfthHour();
        about = "promise 4"; as();
        about = "promise 5"; turns();
        about = "promise 6"; set();
        about = "promise 7"; room();
        about = "promise 8"; sweep();
        about = "promise 9"; watch(); whoLooksWhere();
        about = "promise 10"; at();
        about = "promises 11, 12"; roundAndTo();
        about = "promise 13"; deal();
        about = "promise 14"; seed();
        about = "promise 15"; hours(); twelveDancers(); theLastHour();
        about = "promise 16"; house();
        about = "promise 17"; behind();
        about = "promise 18"; through();
        about = "promise 19"; post();
        about = "promise 20"; began();
        about = "promise 21"; mended();
        about = "promise 22"; meets();
        about = "promise 23"; leads();
        about = "promise 24"; whose();
        about = "promises 25, 26"; feeAndFine(); wear();
        about = "promises 27, 28"; feedAndTrim();
        about = "promise 29"; whatTextsGive(); faults();
        about = "promises 29, 30, 31"; texts();
        about = "promise 32"; sheet();
        about = "promise 33"; mark();
        about = "promise 34"; pour();
        about = "promise 35"; reads();
        about = "promise 36"; copy();
        about = "promise 37"; lay();
        about = "promise 38"; ask();
        about = "promises 39, 40"; itemAndRest();
        about = "promise 41"; tell();
        about = "promise 42"; check();
        about = "promises 43, 44"; image();
        about = "promise 45"; count();
    }

    public static void main(String[] args) {
        all();
        System.out.println(looked + " answers looked at, " + wrong + " are not as due");
        if (wrong != 0 || looked == 0) System.exit(1);
    }
}
