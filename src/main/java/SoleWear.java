public final class SoleWear {
    public static final int BAD = -1000000001, NO = -1000000002, FULL = -1000000003, NONE = -1000000005, NOTHING = -1000000011, KIND = -1000000012, INDEX = -1000000013, SIZE = -1000000014;

    private static final int ROOMS = 10, MOST_FLOOR = 9;
    private static final int MOST_DANCERS = 12, MOST_SOLE = 999, MOST_STEPS = 5;
    private static final int LAST_HOUR = 9999, MOST_WATCH = 100;
    private static final int LONG_RUN = 100, SHORT_RUN = 60, THROUGH_RUN = 200, TOLD_RUN = 30;
    private static final int MOST_TEXTS = 14, MOST_BYTES = 96;
    private static final int WEAR = 0, FEE = 1, FINE = 2, KEYS = 3;
    private static final int SHEETS = 4, MOST_PLACES = 24, MISSING = -1, SHORTS = 0, FLOATS = 1, MOST_FLOAT = 99999;
    private static final int SLOTS = 5, HOLDS_NOTHING = 0, HOLDS_DANCER = 1, HOLDS_SHEET = 2, HOLDS_NUMBER = 3;
    private static final int MOST_WAITING = 60;

    private final House now = new House();
    private final House image = new House();
    private boolean hasImage = false;
    // All that is only thought is played through here, so that no call makes anything new.
    private final House thought = new House();
    private final int[] tally = new int[MOST_DANCERS];

    private final Tape tape = new Tape();
    private final Reader reader = new Reader();
    private final Laws laws = new Laws();

    private final Row[] sheets = new Row[SHEETS];
    private final Slot[] slots = new Slot[SLOTS];

    private final int[] waiting = new int[MOST_WAITING];
    private int waits = 0;

    public SoleWear() {
        for (int i = 0; i < SHEETS; i++) sheets[i] = new Row();
        for (int i = 0; i < SLOTS; i++) slots[i] = new Slot();
    }

    // ---- dancers, rooms

    public int dancer(int kind, int room, int sole, int steps) {
        if (!isKind(kind) || !isRoom(room) || !isSole(sole) || !isSteps(steps)) return BAD;
        if (now.dancers >= MOST_DANCERS) return FULL;
        return now.join(kind, room, sole, steps);
    }

    public int told(int dancer, int what) {
        if (!isDancer(dancer)) return BAD;
        switch (what) {
            case 0: return now.kind[dancer];
            case 1: return now.at[dancer];
            case 2: return now.sole[dancer];
            case 3: return now.steps[dancer];
            case 4: return now.danced[dancer];
            case 5: return now.goesNext(dancer);
            case 6: return now.wearsHere(dancer, laws);
            case 7: return now.leavesHere(dancer);
            case 8: return Kinds.worth(now.kind[dancer], now.sole[dancer]);
            default: return BAD;
        }
    }

    public int as(int dancer, int kind) {
        if (!isDancer(dancer) || !isKind(kind)) return BAD;
        return Kinds.isOf(now.kind[dancer], kind) ? now.sole[dancer] : KIND;
    }

    public int turns(int dancer, int kind) {
        if (!isDancer(dancer) || !isKind(kind)) return BAD;
        return changed(now.kind, dancer, kind);
    }

    public int set(int dancer, int what, int v) {
        if (!isDancer(dancer)) return BAD;
        switch (what) {
            case 1: return isRoom(v) ? changed(now.at, dancer, v) : BAD;
            case 2: return isSole(v) ? changed(now.sole, dancer, v) : BAD;
            case 3: return isSteps(v) ? changed(now.steps, dancer, v) : BAD;
            default: return BAD;
        }
    }

    public int room(int room, int what, int v) {
        if (!isRoom(room)) return BAD;
        switch (what) {
            case 0: return v >= 0 && v <= MOST_FLOOR ? changed(now.floor, room, v) : BAD;
            case 1: return isRoom(v) ? changed(now.leads, room, v) : BAD;
            default: return BAD;
        }
    }

    public int sweep(int room) {
        return isRoom(room) ? changed(now.marks, room, 0) : BAD;
    }

    public int watch(int v) {
        if (v < 0 || v > MOST_WATCH) return BAD;
        int was = now.watch;
        now.watch = v;
        return was;
    }

    public int at(int room) {
        return isRoom(room) ? now.dancersAt(room) : BAD;
    }

    public int round(int room) {
        return isRoom(room) ? now.ringFrom(room) : BAD;
    }

    public int to(int from, int room) {
        if (!isRoom(from) || !isRoom(room)) return BAD;
        return now.waysBetween(from, room);
    }

    public int deal(int n) {
        if (n < 1 || n > MOST_DANCERS) return BAD;
        int come = Math.min(n, MOST_DANCERS - now.dancers);
        for (int i = 0; i < come; i++) now.joinByLot();
        return come;
    }

    public int seed(int v) {
        int was = now.z;
        now.z = v;
        return was;
    }

    // ---- hours

    public int hours(int n) {
        if (n < 1 || n > LONG_RUN) return BAD;
        return now.passHours(Math.min(n, LAST_HOUR - now.hour), laws);
    }

    public int house(int what) {
        switch (what) {
            case 0: return now.seen;
            case 1: return now.looked;
            case 2: return now.allMarks();
            case 3: return now.allSoles();
            case 4: return now.barefoot();
            case 5: return now.roomsWithMarks();
            default: return BAD;
        }
    }

    // ---- what will be

    public int behind(int n, int what) {
        boolean isAsked = what >= 0 && (what <= 2 || isDancer(what - 3));
        if (n < 0 || n > LONG_RUN || !isAsked) return BAD;
        thought.become(now);
        thought.passHours(n, laws);
        switch (what) {
            case 0: return thought.seen;
            case 1: return thought.allMarks();
            case 2: return thought.barefoot();
            default: return thought.at[what - 3];
        }
    }

    public int through() {
        int already = Integer.bitCount(now.barefoot());
        thought.become(now);
        for (int hour = 1; hour <= THROUGH_RUN; hour++) {
            thought.passHour(laws);
            if (Integer.bitCount(thought.barefoot()) > already) return hour;
        }
        return NONE;
    }

    public int post(int n, int what) {
        if (!isShortRun(n) || !isOneOfTwo(what)) return BAD;
        clearTally();
        thought.become(now);
        for (int i = 0; i < n; i++) {
            thought.passHour(laws);
            for (int d = 0; d < thought.dancers; d++) tally[thought.at[d]]++;
        }
        int best = 0;
        for (int r = 1; r < ROOMS; r++) {
            if (tally[r] > tally[best]) best = r;
        }
        return what == 0 ? best : tally[best];
    }

    public int began(int dancer, int n) {
        if (!isDancer(dancer) || n < 0 || n > SHORT_RUN) return BAD;
        int rooms = 0;
        for (int r = 0; r < ROOMS; r++) {
            thought.become(now);
            thought.at[dancer] = r;
            // Nobody's way depends on the others or on the watcher: one dancer alone tells all.
            for (int i = 0; i < n; i++) {
                thought.walk(dancer, laws);
                thought.hour++;
            }
            if (thought.at[dancer] == now.at[dancer]) rooms |= 1 << r;
        }
        return rooms;
    }

    public int mended(int n, int what) {
        if (!isShortRun(n) || !isOneOfTwo(what)) return BAD;
        int best = 0;
        int most = -1;
        for (int r = 0; r < ROOMS; r++) {
            thought.become(now);
            thought.floor[r] = 0;
            thought.passHours(n, laws);
            int left = thought.allSoles();
            if (left > most) {
                best = r;
                most = left;
            }
        }
        return what == 0 ? best : most;
    }

    public int meets(int one, int other, int n) {
        if (!isDancer(one) || !isDancer(other) || one == other || n < 0 || n > LONG_RUN) return BAD;
        thought.become(now);
        for (int hour = 0; hour <= n; hour++) {
            if (hour > 0) thought.passHour(laws);
            if (thought.at[one] == thought.at[other]) return hour;
        }
        return NONE;
    }

    public int leads(int room, int n, int what) {
        if (!isRoom(room) || !isShortRun(n) || !isOneOfTwo(what)) return BAD;
        int best = 0;
        int least = Integer.MAX_VALUE;
        for (int r = 0; r < ROOMS; r++) {
            thought.become(now);
            thought.leads[room] = r;
            thought.passHours(n, laws);
            if (thought.seen < least) {
                best = r;
                least = thought.seen;
            }
        }
        return what == 0 ? best : least;
    }

    public int whose(int sheet, int what) {
        Row row = sheetOf(sheet);
        if (row == null || !isOneOfTwo(what)) return BAD;
        if (row.isMissing()) return NOTHING;
        if (now.dancers == 0) return NONE;
        tallyDifferences(row);
        int best = 0;
        for (int d = 1; d < now.dancers; d++) {
            if (tally[d] < tally[best]) best = d;
        }
        return what == 0 ? best : tally[best];
    }

    public int fee() {
        int text = now.counting[FEE];
        return text < 0 ? now.seen : laws.gives(text, 0, now.seen, now.looked);
    }

    public int fine(int dancer) {
        if (!isDancer(dancer)) return BAD;
        int text = now.counting[FINE];
        return text < 0 ? now.danced[dancer] : laws.gives(text, 0, now.sole[dancer], now.danced[dancer]);
    }

    // ---- texts

    public int feed(int a, int b, int c) {
        if (tape.length + 12 > MOST_BYTES) return FULL;
        tape.addFour(a);
        tape.addFour(b);
        tape.addFour(c);
        return tape.length;
    }

    public int trim(int n) {
        if (n < 0 || n > tape.length) return BAD;
        tape.length = n;
        return n;
    }

    public int text() {
        boolean isText = reader.takes(tape);
        tape.length = 0;
        if (!isText) return -100 - tape.start;
        if (now.texts >= MOST_TEXTS) return FULL;
        int number = now.texts;
        laws.put(number, reader);
        now.texts++;
        now.counting[reader.key] = number;
        return number;
    }

    public int textTold(int text, int what) {
        if (text < 0 || text >= now.texts || !isOneOfTwo(what)) return BAD;
        return what == 0 ? laws.keys[text] : laws.pieces[text];
    }

    public int why(int key) {
        if (key < 0 || key >= KEYS) return BAD;
        return now.counting[key] < 0 ? NONE : now.counting[key];
    }

    // ---- sheets, slots

    public int sheet(int sheet, int sort, int n) {
        Row row = sheetOf(sheet);
        if (row == null || sort < MISSING || sort > FLOATS) return BAD;
        if (sort == MISSING) {
            row.becomeZeros(MISSING, 0);
            return 0;
        }
        if (n > MOST_PLACES) return BAD;
        if (n < 0) return SIZE;
        row.becomeZeros(sort, n);
        return n;
    }

    public int mark(int sheet, int place, int v) {
        Row row = sheetOf(sheet);
        if (row == null) return BAD;
        if (row.isMissing()) return NOTHING;
        if (!row.hasPlaces(place, 1)) return INDEX;
        if (row.sort == SHORTS) {
            if (v == NONE) return KIND;
            row.places[place] = (short) v;
            return 1;
        }
        if (v != NONE && (v < -MOST_FLOAT || v > MOST_FLOAT)) return BAD;
        row.places[place] = v;
        return 1;
    }

    public int pour(int sheet) {
        Row row = sheetOf(sheet);
        if (row == null) return BAD;
        if (row.isMissing()) return NOTHING;
        int otherwise = 0;
        for (int r = 0; r < ROOMS && r < row.size; r++) {
            if (!row.isNumber(r)) continue;
            int floor = held(row.places[r], MOST_FLOOR);
            if (changed(now.floor, r, floor) != floor) otherwise++;
        }
        return otherwise;
    }

    public int reads(int sheet) {
        Row row = sheetOf(sheet);
        if (row == null) return BAD;
        if (row.isMissing()) return NOTHING;
        for (int p = 0; p < row.size; p++) {
            if (row.isNumber(p) && (p >= ROOMS || row.places[p] != now.marks[p])) return p;
        }
        return NONE;
    }

    public int copy(int from, int place, int to, int at, int many) {
        Row source = sheetOf(from);
        Row target = sheetOf(to);
        if (source == null || target == null) return BAD;
        if (source.isMissing() || target.isMissing()) return NOTHING;
        if (source.sort != target.sort) return KIND;
        if (!source.hasPlaces(place, many) || !target.hasPlaces(at, many)) return INDEX;
        System.arraycopy(source.places, place, target.places, at, many);
        return many;
    }

    public int lay(int slot, int thing, int k) {
        Slot s = slotOf(slot);
        if (s == null) return BAD;
        int before = s.thing;
        switch (thing) {
            case HOLDS_NOTHING:
                break;
            case HOLDS_DANCER:
                if (!isDancer(k)) return BAD;
                s.kind = now.kind[k];
                s.sole = now.sole[k];
                break;
            case HOLDS_SHEET:
                Row row = sheetOf(k);
                if (row == null) return BAD;
                if (row.isMissing()) return NOTHING;
                s.row.become(row);
                break;
            case HOLDS_NUMBER:
                s.number = k;
                break;
            default:
                return BAD;
        }
        s.thing = thing;
        return before;
    }

    public int ask(int slot, int kind) {
        Slot s = slotOf(slot);
        if (s == null || !isKind(kind)) return BAD;
        if (s.thing == HOLDS_NOTHING) return NOTHING;
        if (s.thing != HOLDS_DANCER || !Kinds.isOf(s.kind, kind)) return KIND;
        return Kinds.worth(s.kind, s.sole);
    }

    public int item(int slot, int place) {
        Slot s = slotOf(slot);
        if (s == null) return BAD;
        if (s.thing == HOLDS_NOTHING) return NOTHING;
        if (s.thing != HOLDS_SHEET) return KIND;
        if (!s.row.hasPlaces(place, 1)) return INDEX;
        return s.row.isNumber(place) ? s.row.places[place] : KIND;
    }

    public int rest(int slot, int n) {
        Slot s = slotOf(slot);
        if (s == null) return BAD;
        if (s.thing == HOLDS_NOTHING) return NOTHING;
        if (s.thing != HOLDS_NUMBER) return KIND;
        return n == 0 ? NO : s.number % n;
    }

    // ---- rows, images

    public int tell(int v) {
        if (waits >= MOST_WAITING) return FULL;
        waiting[waits] = v;
        waits++;
        return waits;
    }

    public int check(int n) {
        int many = waits;
        waits = 0;
        if (n < 1 || n > TOLD_RUN) return BAD;
        if (!hasImage) return NO;
        int told = Math.min(n, LAST_HOUR - image.hour);
        int right = 0;
        thought.become(image);
        for (int i = 0; i < told; i++) {
            thought.passHour(laws);
            if (right >= many || waiting[right] != thought.allSoles()) return 1 + right;
            right++;
            if (right >= many || waiting[right] != thought.seen) return 1 + right;
            right++;
        }
        return right < many ? 1 + right : 0;
    }

    public int keep() {
        image.become(now);
        hasImage = true;
        return now.dancers;
    }

    public int back() {
        if (!hasImage) return NO;
        now.become(image);
        return now.dancers;
    }

    public int count(int what) {
        switch (what) {
            case 0: return now.dancers;
            case 1: return now.hour;
            case 2: return now.watch;
            case 3: return now.texts;
            case 4: return waits;
            case 5: return tape.length;
            case 6: return now.z;
            default: return BAD;
        }
    }

    // ---- what the calls share

    private boolean isDancer(int dancer) {
        return dancer >= 0 && dancer < now.dancers;
    }

    private Row sheetOf(int sheet) {
        return sheet >= 0 && sheet < SHEETS ? sheets[sheet] : null;
    }

    private Slot slotOf(int slot) {
        return slot >= 0 && slot < SLOTS ? slots[slot] : null;
    }

    private void clearTally() {
        for (int i = 0; i < tally.length; i++) tally[i] = 0;
    }

    private void tallyDifferences(Row row) {
        clearTally();
        thought.become(now);
        for (int k = 0; k < row.size; k++) {
            if (k > 0) thought.passHour(laws);
            if (!row.isNumber(k)) continue;
            for (int d = 0; d < thought.dancers; d++) tally[d] += Math.abs(thought.sole[d] - row.places[k]);
        }
    }

    private static boolean isKind(int kind) {
        return kind >= 0 && kind < Kinds.MANY;
    }

    private static boolean isRoom(int room) {
        return room >= 0 && room < ROOMS;
    }

    private static boolean isSole(int sole) {
        return sole >= 0 && sole <= MOST_SOLE;
    }

    private static boolean isSteps(int steps) {
        return steps >= 0 && steps <= MOST_STEPS;
    }

    private static boolean isShortRun(int n) {
        return n >= 1 && n <= SHORT_RUN;
    }

    private static boolean isOneOfTwo(int what) {
        return what == 0 || what == 1;
    }

    private static int held(int v, int most) {
        return Math.max(0, Math.min(v, most));
    }

    private static int changed(int[] row, int place, int v) {
        int was = row[place];
        row[place] = v;
        return was;
    }

    private static final class Kinds {
        static final int DANCER = 0, ELDEST = 1, CLUMSY = 2, LIGHT = 3, HEELED = 4, TWELFTH = 5, MANY = 6;

        static boolean isOf(int kind, int asked) {
            if (kind == asked || asked == DANCER) return true;
            return kind == LIGHT && asked == ELDEST || kind == HEELED && asked == CLUMSY;
        }

        static int wears(int kind, int asDancer) {
            switch (kind) {
                case ELDEST: return asDancer / 2;
                case LIGHT: return Math.max(0, asDancer / 2 - 1);
                case CLUMSY: return asDancer * 2;
                case HEELED: return asDancer * 2 + 3;
                case TWELFTH: return asDancer + 1;
                default: return asDancer;
            }
        }

        static int goes(int kind, int steps, int hour) {
            switch (kind) {
                case ELDEST: return Math.max(0, steps - 1);
                case LIGHT: return Math.max(0, steps - 1) + 2;
                case HEELED: return steps / 2;
                case TWELFTH: return hour % 12 == 11 ? steps + 1 : steps;
                default: return steps;
            }
        }

        static int leaves(int kind, int floor) {
            int asDancer = floor >= 5 ? 1 : 0;
            switch (kind) {
                case LIGHT: return 0;
                case CLUMSY: return asDancer + 1;
                case HEELED: return asDancer + 1;
                default: return asDancer;
            }
        }

        static int worth(int kind, int sole) {
            switch (kind) {
                case ELDEST: return sole + 8;
                case LIGHT: return (sole + 8) * 2;
                case CLUMSY: return MOST_SOLE - sole;
                case HEELED: return MOST_SOLE - sole - 7;
                case TWELFTH: return 12;
                default: return sole;
            }
        }
    }

    // All that an image keeps; of the texts only how many there are and which count,
    // for a text that an image knows is never told over.
    private static final class House {
        int dancers = 0;
        final int[] kind = new int[MOST_DANCERS];
        final int[] at = new int[MOST_DANCERS];
        final int[] sole = new int[MOST_DANCERS];
        final int[] steps = new int[MOST_DANCERS];
        final int[] danced = new int[MOST_DANCERS];
        final int[] floor = new int[ROOMS];
        final int[] leads = new int[ROOMS];
        final int[] marks = new int[ROOMS];
        int watch = 0;
        int seen = 0;
        int looked = 0;
        int hour = 0;
        int z = 1;
        int texts = 0;
        final int[] counting = new int[KEYS];

        House() {
            for (int r = 0; r < ROOMS; r++) {
                floor[r] = 1;
                leads[r] = r;
            }
            for (int k = 0; k < KEYS; k++) counting[k] = -1;
        }

        void become(House other) {
            dancers = other.dancers;
            System.arraycopy(other.kind, 0, kind, 0, MOST_DANCERS);
            System.arraycopy(other.at, 0, at, 0, MOST_DANCERS);
            System.arraycopy(other.sole, 0, sole, 0, MOST_DANCERS);
            System.arraycopy(other.steps, 0, steps, 0, MOST_DANCERS);
            System.arraycopy(other.danced, 0, danced, 0, MOST_DANCERS);
            System.arraycopy(other.floor, 0, floor, 0, ROOMS);
            System.arraycopy(other.leads, 0, leads, 0, ROOMS);
            System.arraycopy(other.marks, 0, marks, 0, ROOMS);
            watch = other.watch;
            seen = other.seen;
            looked = other.looked;
            hour = other.hour;
            z = other.z;
            texts = other.texts;
            System.arraycopy(other.counting, 0, counting, 0, KEYS);
        }

        int join(int newKind, int newAt, int newSole, int newSteps) {
            int number = dancers;
            kind[number] = newKind;
            at[number] = newAt;
            sole[number] = newSole;
            steps[number] = newSteps;
            danced[number] = 0;
            dancers++;
            return number;
        }

        int joinByLot() {
            int newKind = draw() % Kinds.MANY;
            int newAt = draw() % ROOMS;
            int newSole = 1 + draw() % 200;
            int newSteps = draw() % (MOST_STEPS + 1);
            return join(newKind, newAt, newSole, newSteps);
        }

        int draw() {
            z = z * 1103515245 + 12345;
            return z >>> 8;
        }

        int goesNext(int d) {
            return sole[d] == 0 ? 0 : Kinds.goes(kind[d], steps[d], hour);
        }

        int wearsHere(int d, Laws laws) {
            int f = floor[at[d]];
            int text = counting[WEAR];
            int asDancer = text < 0 ? f : held(laws.gives(text, f, sole[d], danced[d]), 99);
            return Kinds.wears(kind[d], asDancer);
        }

        int leavesHere(int d) {
            return Kinds.leaves(kind[d], floor[at[d]]);
        }

        int walk(int d, Laws laws) {
            int ways = goesNext(d);
            int gone = 0;
            while (gone < ways && sole[d] > 0) {
                at[d] = leads[at[d]];
                danced[d]++;
                sole[d] = Math.max(0, sole[d] - wearsHere(d, laws));
                marks[at[d]] += leavesHere(d);
                gone++;
            }
            return gone;
        }

        int passHour(Laws laws) {
            int gone = 0;
            for (int d = 0; d < dancers; d++) gone += walk(d, laws);
            if (draw() % 100 < watch) {
                looked++;
                seen += Integer.bitCount(dancersAt(draw() % ROOMS));
            }
            hour++;
            return gone;
        }

        int passHours(int n, Laws laws) {
            int gone = 0;
            for (int i = 0; i < n; i++) gone += passHour(laws);
            return gone;
        }

        int dancersAt(int r) {
            int bits = 0;
            for (int d = 0; d < dancers; d++) {
                if (at[d] == r) bits |= 1 << d;
            }
            return bits;
        }

        int barefoot() {
            int bits = 0;
            for (int d = 0; d < dancers; d++) {
                if (sole[d] == 0) bits |= 1 << d;
            }
            return bits;
        }

        int roomsWithMarks() {
            int bits = 0;
            for (int r = 0; r < ROOMS; r++) {
                if (marks[r] > 0) bits |= 1 << r;
            }
            return bits;
        }

        int allMarks() {
            int all = 0;
            for (int r = 0; r < ROOMS; r++) all += marks[r];
            return all;
        }

        int allSoles() {
            int all = 0;
            for (int d = 0; d < dancers; d++) all += sole[d];
            return all;
        }

        int ringFrom(int from) {
            int r = from;
            // Behind as many ways as there are rooms one is in the ring for certain.
            for (int i = 0; i < ROOMS; i++) r = leads[r];
            int next = leads[r];
            int ring = 1;
            while (ring < ROOMS && next != r) {
                next = leads[next];
                ring++;
            }
            return ring;
        }

        int waysBetween(int from, int goal) {
            int r = from;
            for (int ways = 0; ways < ROOMS; ways++) {
                if (r == goal) return ways;
                r = leads[r];
            }
            return NONE;
        }
    }

    // The bytes, and the word or sign among them that comes next: from start on, up to behind.
    private static final class Tape {
        static final int END = 0, LETTERS = 1, DIGITS = 2, SIGN = 3, FAULTY = 4;
        static final int MOST_DIGITS = 4;

        final int[] bytes = new int[MOST_BYTES];
        int length = 0;
        int start = 0;
        int behind = 0;
        int sort = END;

        void addFour(int v) {
            for (int shift = 24; shift >= 0 && length < MOST_BYTES; shift -= 8) {
                bytes[length] = v >>> shift & 255;
                length++;
            }
        }

        void begin() {
            behind = 0;
            step();
        }

        void step() {
            start = behind;
            while (start < length && bytes[start] == ' ') start++;
            behind = start;
            if (start >= length) {
                sort = END;
                return;
            }
            sort = sortOf(bytes[start]);
            behind++;
            if (sort == SIGN) return;
            while (behind < length && sortOf(bytes[behind]) == sort) behind++;
            boolean isGlued = start > 0 && sortOf(bytes[start - 1]) != SIGN;
            boolean isTooLong = sort == DIGITS && behind - start > MOST_DIGITS;
            if (isGlued || isTooLong) sort = FAULTY;
        }

        static int sortOf(int b) {
            if (b >= 'a' && b <= 'z') return LETTERS;
            return b >= '0' && b <= '9' ? DIGITS : SIGN;
        }

        boolean isWord(String word) {
            if (sort != LETTERS || behind - start != word.length()) return false;
            for (int i = 0; i < word.length(); i++) {
                if (bytes[start + i] != word.charAt(i)) return false;
            }
            return true;
        }

        boolean isSign(char sign) {
            return sort == SIGN && bytes[start] == sign;
        }

        int number() {
            int v = 0;
            for (int i = start; i < behind; i++) v = v * 10 + bytes[i] - '0';
            return v;
        }
    }

    // Reads the tape into a row of codes, each value ahead of what is done with it.
    // Where it stops, the tape stands at the fault.
    private static final class Reader {
        static final int LEVELS = 5, TESTS = 2, MOST_OPEN = 8;

        final int[] codes = new int[MOST_BYTES];
        int size = 0;
        int pieces = 0;
        int key = WEAR;

        boolean takes(Tape tape) {
            size = 0;
            pieces = 0;
            tape.begin();
            key = keyOf(tape);
            if (key < 0) return false;
            tape.step();
            return chain(tape, 0, 0, 0) && tape.sort == Tape.END;
        }

        private static int keyOf(Tape tape) {
            if (tape.isWord("wear")) return WEAR;
            if (tape.isWord("fee")) return FEE;
            return tape.isWord("fine") ? FINE : -1;
        }

        // One level of E, the loosest is 0; how many ( and ! are open keeps the depth low.
        private boolean chain(Tape tape, int level, int open, int nots) {
            if (level >= LEVELS) return piece(tape, open, nots);
            if (!chain(tape, level + 1, open, nots)) return false;
            int most = level == TESTS ? 1 : MOST_BYTES;
            for (int i = 0; i < most; i++) {
                int code = joinOf(tape, level);
                if (code == Laws.NO_CODE) return true;
                tape.step();
                if (!chain(tape, level + 1, open, nots)) return false;
                put(code);
            }
            return true;
        }

        private static int joinOf(Tape tape, int level) {
            switch (level) {
                case 0: return tape.isSign('|') ? Laws.OR : Laws.NO_CODE;
                case 1: return tape.isSign('&') ? Laws.AND : Laws.NO_CODE;
                case 2:
                    if (tape.isSign('<')) return Laws.LESS;
                    if (tape.isSign('=')) return Laws.SAME;
                    return tape.isSign('>') ? Laws.MORE : Laws.NO_CODE;
                case 3:
                    if (tape.isSign('+')) return Laws.PLUS;
                    return tape.isSign('-') ? Laws.MINUS : Laws.NO_CODE;
                default:
                    if (tape.isSign('*')) return Laws.TIMES;
                    return tape.isSign('/') ? Laws.OVER : Laws.NO_CODE;
            }
        }

        private boolean piece(Tape tape, int open, int nots) {
            if (tape.isSign('!')) {
                if (nots >= MOST_OPEN) return false;
                tape.step();
                if (!piece(tape, open, nots + 1)) return false;
                put(Laws.NOT);
                return true;
            }
            if (tape.isSign('(')) {
                if (open >= MOST_OPEN) return false;
                tape.step();
                if (!chain(tape, 0, open + 1, nots) || !tape.isSign(')')) return false;
                tape.step();
                return true;
            }
            int code = tape.sort == Tape.DIGITS ? tape.number() : nameOf(tape);
            if (code == Laws.NO_CODE) return false;
            put(code);
            pieces++;
            tape.step();
            return true;
        }

        private int nameOf(Tape tape) {
            if (tape.isWord("s")) return Laws.SECOND;
            if (tape.isWord("f") && key == WEAR) return Laws.FIRST;
            if (tape.isWord("d") && key != FEE) return Laws.THIRD;
            return tape.isWord("l") && key == FEE ? Laws.THIRD : Laws.NO_CODE;
        }

        private void put(int code) {
            if (size >= MOST_BYTES) return;
            codes[size] = code;
            size++;
        }
    }

    // The texts that have been told. Codes from 0 on are numbers; below are names and what is done.
    private static final class Laws {
        static final int NO_CODE = -1, FIRST = -2, SECOND = -3, THIRD = -4, NOT = -5, OR = -6, AND = -7;
        static final int LESS = -8, SAME = -9, MORE = -10, PLUS = -11, MINUS = -12, TIMES = -13, OVER = -14;

        final int[][] codes = new int[MOST_TEXTS][MOST_BYTES];
        final int[] sizes = new int[MOST_TEXTS];
        final int[] keys = new int[MOST_TEXTS];
        final int[] pieces = new int[MOST_TEXTS];
        final int[] stack = new int[MOST_BYTES];

        void put(int text, Reader from) {
            System.arraycopy(from.codes, 0, codes[text], 0, from.size);
            sizes[text] = from.size;
            keys[text] = from.key;
            pieces[text] = from.pieces;
        }

        int gives(int text, int first, int second, int third) {
            int[] row = codes[text];
            int top = -1;
            for (int i = 0; i < sizes[text]; i++) {
                int code = row[i];
                if (code > NOT) {
                    top++;
                    stack[top] = valueOf(code, first, second, third);
                } else if (code == NOT) {
                    stack[top] = stack[top] == 0 ? 1 : 0;
                } else {
                    top--;
                    stack[top] = joined(code, stack[top], stack[top + 1]);
                }
            }
            return stack[0];
        }

        private static int valueOf(int code, int first, int second, int third) {
            switch (code) {
                case FIRST: return first;
                case SECOND: return second;
                case THIRD: return third;
                default: return code;
            }
        }

        private static int joined(int code, int left, int right) {
            switch (code) {
                case OR: return left != 0 || right != 0 ? 1 : 0;
                case AND: return left != 0 && right != 0 ? 1 : 0;
                case LESS: return left < right ? 1 : 0;
                case SAME: return left == right ? 1 : 0;
                case MORE: return left > right ? 1 : 0;
                case PLUS: return left + right;
                case MINUS: return left - right;
                case TIMES: return left * right;
                default: return right == 0 ? 0 : left / right;
            }
        }
    }

    // A place that is no number holds NONE, which no number of a row can be.
    private static final class Row {
        int sort = MISSING;
        int size = 0;
        final int[] places = new int[MOST_PLACES];

        boolean isMissing() {
            return sort == MISSING;
        }

        boolean isNumber(int place) {
            return places[place] != NONE;
        }

        boolean hasPlaces(int first, int many) {
            return first >= 0 && many >= 0 && many <= size - first;
        }

        void becomeZeros(int newSort, int newSize) {
            sort = newSort;
            size = newSize;
            for (int i = 0; i < MOST_PLACES; i++) places[i] = 0;
        }

        void become(Row other) {
            sort = other.sort;
            size = other.size;
            System.arraycopy(other.places, 0, places, 0, MOST_PLACES);
        }
    }

    private static final class Slot {
        int thing = HOLDS_NOTHING;
        int kind = 0;
        int sole = 0;
        int number = 0;
        final Row row = new Row();
    }
}
