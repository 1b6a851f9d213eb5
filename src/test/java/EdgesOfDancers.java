/** The edges that the document names of a new object, of dancers and of rooms: promises 1 to 14. */
final class EdgesOfDancers {
    private static final int BAD = Edges.BAD, FULL = Edges.FULL, NONE = Edges.NONE, NOTHING = Edges.NOTHING, KIND = Edges.KIND, NO = Edges.NO;
    private static final int LEAST = Edges.LEAST, MOST = Edges.MOST;

    private EdgesOfDancers() { }

    private static void due(String call, int got, int want) {
        Edges.due(call, got, want);
    }

    private static SoleWear one(int kind, int room, int sole, int steps) {
        SoleWear x = Edges.ring();
        x.dancer(kind, room, sole, steps);
        return x;
    }

    // ---- promise 1

    static void promise01ThereAreNoDancers() {
        SoleWear x = new SoleWear();
        due("count(0)", x.count(0), 0);
        due("told(0, 0)", x.told(0, 0), BAD);
        due("house(3)", x.house(3), 0);
        due("house(4)", x.house(4), 0);
        for (int r = 0; r < 10; r++) due("at(" + r + ")", x.at(r), 0);
    }

    static void promise01FloorsAreOneAtFirst() {
        for (int r = 0; r < 10; r++) due("floor " + r, new SoleWear().room(r, 0, 5), 1);
    }

    static void promise01RoomsLeadToThemselvesAtFirst() {
        for (int r = 0; r < 10; r++) due("leads " + r, new SoleWear().room(r, 1, 5), r);
    }

    static void promise01MarksAreNoneAtFirst() {
        for (int r = 0; r < 10; r++) due("marks " + r, new SoleWear().sweep(r), 0);
        due("house(2)", new SoleWear().house(2), 0);
        due("house(5)", new SoleWear().house(5), 0);
    }

    static void promise01WatchSeenLookedAndTheHourAreNoneAtFirst() {
        SoleWear x = new SoleWear();
        due("watch", x.count(2), 0);
        due("seen", x.house(0), 0);
        due("looked", x.house(1), 0);
        due("the hour", x.count(1), 0);
    }

    static void promise01ZIsOneAtFirst() {
        due("count(6)", new SoleWear().count(6), 1);
    }

    static void promise01SheetsAreMissingAtFirst() {
        for (int s = 0; s < 4; s++) due("reads(" + s + ")", new SoleWear().reads(s), NOTHING);
    }

    static void promise01SlotsHoldNothingAtFirst() {
        for (int s = 0; s < 5; s++) due("lay(" + s + ")", new SoleWear().lay(s, 3, 1), 0);
        for (int s = 0; s < 5; s++) due("rest(" + s + ")", new SoleWear().rest(s, 1), NOTHING);
    }

    static void promise01NoTextsNoTapeNoNumbersNoImage() {
        SoleWear x = new SoleWear();
        due("texts", x.count(3), 0);
        due("numbers", x.count(4), 0);
        due("bytes", x.count(5), 0);
        for (int key = 0; key < 3; key++) due("why(" + key + ")", x.why(key), NONE);
        due("back()", x.back(), NO);
    }

    static void promise01FiveHundredAndTwelveCalls() {
        SoleWear x = new SoleWear();
        for (int call = 1; call < 512; call++) x.seed(call);
        due("the last call", x.count(6), 511);
    }

    // ---- promise 2

    static void promise02KindIsFrom0To5() {
        Edges.range(0, 5, (x, v) -> x.dancer(v, 1, 20, 2));
        for (int k : new int[] {0, 5}) due("kind", one(k, 0, 9, 0).told(0, 0), k);
    }

    static void promise02RoomIsFrom0To9() {
        Edges.range(0, 9, (x, v) -> x.dancer(1, v, 20, 2));
        for (int r : new int[] {0, 9}) due("at", one(1, r, 9, 0).told(0, 1), r);
    }

    static void promise02SoleIsFrom0To999() {
        Edges.range(0, 999, (x, v) -> x.dancer(1, 1, v, 2));
        for (int s : new int[] {0, 999}) due("sole", one(1, 1, s, 0).told(0, 2), s);
    }

    static void promise02StepsAreFrom0To5() {
        Edges.range(0, 5, (x, v) -> x.dancer(1, 1, 20, v));
        for (int s : new int[] {0, 5}) due("steps", one(1, 1, 9, s).told(0, 3), s);
    }

    static void promise02TheTwelfthIsTakenTheThirteenthIsFull() {
        SoleWear x = new SoleWear();
        for (int d = 0; d < 12; d++) due("dancer", x.dancer(0, 1, 2, 3), d);
        due("the thirteenth", x.dancer(0, 1, 2, 3), FULL);
        due("count(0)", x.count(0), 12);
        Edges.refused(FULL, Edges::crowded, y -> y.dancer(0, 1, 2, 3));
    }

    static void promise02BadStandsAheadOfFull() {
        Edges.refused(BAD, Edges::crowded, x -> x.dancer(6, 1, 2, 3));
        Edges.refused(BAD, Edges::crowded, x -> x.dancer(0, 10, 2, 3));
        Edges.refused(BAD, Edges::crowded, x -> x.dancer(0, 1, 1000, 3));
        Edges.refused(BAD, Edges::crowded, x -> x.dancer(0, 1, 2, 6));
    }

    static void promise02NumbersBeginAt0AndDancedIs0AtFirst() {
        SoleWear x = Edges.ring();
        due("the first", x.dancer(0, 0, 99, 5), 0);
        x.hours(3);
        due("the second", x.dancer(0, 0, 99, 5), 1);
        due("danced of the first", x.told(0, 4), 15);
        due("danced of the second", x.told(1, 4), 0);
    }

    // ---- promise 3

    static void promise03DancerIsOneThatIs() {
        Edges.range(0, 2, (x, v) -> x.told(v, 0));
        Edges.range(0, 11, Edges::crowded, (x, v) -> x.told(v, 0));
        Edges.refused(BAD, SoleWear::new, x -> x.told(0, 0));
    }

    static void promise03WhatIsFrom0To8() {
        Edges.range(0, 8, (x, v) -> x.told(0, v));
        due("kind", Edges.lived().told(2, 0), 3);
        due("worth", Edges.lived().told(2, 8), 416);
    }

    private static int goes(int kind, int steps) {
        return one(kind, 0, 100, steps).told(0, 5);
    }

    static void promise03TheEldestGoesOneLessButNotBelow0() {
        int[] due = {0, 0, 1, 2, 3, 4};
        for (int s = 0; s <= 5; s++) due("steps " + s, goes(1, s), due[s]);
    }

    static void promise03TheLightGoesTwoMoreThanWhatIsHeldAt0() {
        int[] due = {2, 2, 3, 4, 5, 6};
        for (int s = 0; s <= 5; s++) due("steps " + s, goes(3, s), due[s]);
    }

    static void promise03TheHeeledGoesHalfCut() {
        int[] due = {0, 0, 1, 1, 2, 2};
        for (int s = 0; s <= 5; s++) due("steps " + s, goes(4, s), due[s]);
    }

    static void promise03TheDancerAndTheClumsyGoTheirSteps() {
        for (int s = 0; s <= 5; s++) due("steps " + s, goes(0, s), s);
        for (int s = 0; s <= 5; s++) due("steps " + s, goes(2, s), s);
    }

    static void promise03TheTwelfthGoesOneMoreAtTheRest11Alone() {
        SoleWear x = one(5, 0, 999, 5);
        int[] due = new int[37];
        for (int hour = 0; hour <= 36; hour++) due[hour] = hour == 11 || hour == 23 || hour == 35 ? 6 : 5;
        for (int hour = 0; hour <= 36; hour++) {
            due("hour " + hour, x.told(0, 5), due[hour]);
            x.hours(1);
        }
    }

    static void promise03BarefootGoesNoRoomSole1Goes() {
        int[] due = {5, 4, 5, 6, 2, 5};
        for (int k = 0; k < 6; k++) {
            due("barefoot kind " + k, one(k, 0, 0, 5).told(0, 5), 0);
            due("sole 1 kind " + k, one(k, 0, 1, 5).told(0, 5), due[k]);
        }
        SoleWear x = one(5, 0, 9, 0);
        x.hours(11);
        x.set(0, 2, 0);
        due("a barefoot twelfth at 11", x.told(0, 5), 0);
    }

    private static int wears(int kind, String wear) {
        SoleWear x = one(kind, 0, 100, 1);
        Edges.text(x, "wear " + wear);
        return x.told(0, 6);
    }

    static void promise03WhatWearGivesIsHeldWithin0And99() {
        String[] gives = {"0-1", "0", "1", "98", "99", "100", "9999", "0-9999"};
        int[] due = {0, 0, 1, 98, 99, 99, 99, 0};
        for (int i = 0; i < due.length; i++) due("wear " + gives[i], wears(0, gives[i]), due[i]);
        due("the most", wears(0, "0-(8192*8192*16*2)-1"), 99);
        due("the least", wears(0, "8192*8192*16*2"), 0);
    }

    static void promise03WithoutATextItWearsTheFloor() {
        for (int f = 0; f <= 9; f++) {
            SoleWear x = one(0, 3, 100, 1);
            x.room(3, 0, f);
            due("floor " + f, x.told(0, 6), f);
        }
    }

    static void promise03TheEldestWearsHalfCut() {
        int[] gives = {0, 1, 2, 3, 98, 99}, due = {0, 0, 1, 1, 49, 49};
        for (int i = 0; i < gives.length; i++) due("wear " + gives[i], wears(1, "" + gives[i]), due[i]);
    }

    static void promise03TheLightWearsOneLessButNotBelow0() {
        int[] gives = {0, 1, 2, 3, 4, 5, 99}, due = {0, 0, 0, 0, 1, 1, 48};
        for (int i = 0; i < gives.length; i++) due("wear " + gives[i], wears(3, "" + gives[i]), due[i]);
    }

    static void promise03OthersWearMoreThanIsHeld() {
        int[] kinds = {2, 4, 5}, at0 = {0, 3, 1}, at99 = {198, 201, 100};
        for (int i = 0; i < 3; i++) {
            due("wear 0 of kind " + kinds[i], wears(kinds[i], "0-7"), at0[i]);
            due("wear 99 of kind " + kinds[i], wears(kinds[i], "107"), at99[i]);
        }
    }

    static void promise03LeavesAMarkFromFloor5On() {
        int[] floors = {0, 4, 5, 9};
        int[][] due = {{0, 0, 1, 1}, {0, 0, 1, 1}, {1, 1, 2, 2}, {0, 0, 0, 0}, {1, 1, 2, 2}, {0, 0, 1, 1}};
        for (int k = 0; k < 6; k++) {
            for (int i = 0; i < 4; i++) {
                SoleWear x = one(k, 3, 100, 1);
                x.room(3, 0, floors[i]);
                due("floor " + floors[i] + " kind " + k, x.told(0, 7), due[k][i]);
            }
        }
    }

    static void promise03WorthAtTheEndsOfSole() {
        int[] at0 = {0, 8, 999, 16, 992, 12}, at999 = {999, 1007, 0, 2014, -7, 12};
        for (int k = 0; k < 6; k++) {
            due("sole 0 kind " + k, one(k, 0, 0, 0).told(0, 8), at0[k]);
            due("sole 999 kind " + k, one(k, 0, 999, 0).told(0, 8), at999[k]);
        }
    }

    // ---- promise 4

    static void promise04DancerIsOneThatIs() {
        Edges.range(0, 2, (x, v) -> x.as(v, 0));
        Edges.refused(BAD, SoleWear::new, x -> x.as(0, 0));
    }

    static void promise04KindIsFrom0To5() {
        Edges.range(0, 5, (x, v) -> x.as(0, v));
    }

    static void promise04AKindThatItIsNotIsRefused() {
        String[] isOf = {"0", "01", "02", "013", "024", "05"};
        for (int k = 0; k < 6; k++) {
            for (int a = 0; a < 6; a++) {
                int kind = k;
                int asked = a;
                if (isOf[k].indexOf('0' + a) >= 0) due("as " + a + " of " + k, one(k, 0, 31, 0).as(0, a), 31);
                else Edges.refused(KIND, () -> one(kind, 0, 31, 0), x -> x.as(0, asked));
            }
        }
    }

    static void promise04BadStandsAheadOfKind() {
        Edges.refused(BAD, x -> x.as(3, 5));
        Edges.refused(BAD, x -> x.as(0, 6));
    }

    // ---- promise 5

    static void promise05DancerIsOneThatIs() {
        Edges.range(0, 2, (x, v) -> x.turns(v, 2));
        Edges.refused(BAD, SoleWear::new, x -> x.turns(0, 0));
    }

    static void promise05KindIsFrom0To5() {
        Edges.range(0, 5, (x, v) -> x.turns(0, v));
        SoleWear x = Edges.lived();
        due("turns(0, 5)", x.turns(0, 5), 0);
        due("turns(0, 0)", x.turns(0, 0), 5);
        due("kind", x.told(0, 0), 0);
    }

    // ---- promise 6

    static void promise06DancerIsOneThatIs() {
        Edges.range(0, 2, (x, v) -> x.set(v, 2, 9));
        Edges.refused(BAD, SoleWear::new, x -> x.set(0, 1, 0));
    }

    static void promise06WhatIsFrom1To3() {
        Edges.range(1, 3, (x, v) -> x.set(0, v, 4));
    }

    static void promise06AtIsFrom0To9() {
        Edges.range(0, 9, (x, v) -> x.set(1, 1, v));
        SoleWear x = one(0, 4, 5, 3);
        due("set(0, 1, 9)", x.set(0, 1, 9), 4);
        due("set(0, 1, 0)", x.set(0, 1, 0), 9);
        due("at", x.told(0, 1), 0);
    }

    static void promise06SoleIsFrom0To999() {
        Edges.range(0, 999, (x, v) -> x.set(1, 2, v));
        SoleWear x = one(0, 4, 5, 3);
        due("set(0, 2, 999)", x.set(0, 2, 999), 5);
        due("set(0, 2, 0)", x.set(0, 2, 0), 999);
        due("sole", x.told(0, 2), 0);
    }

    static void promise06StepsAreFrom0To5() {
        Edges.range(0, 5, (x, v) -> x.set(1, 3, v));
        SoleWear x = one(0, 4, 5, 3);
        due("set(0, 3, 5)", x.set(0, 3, 5), 3);
        due("set(0, 3, 0)", x.set(0, 3, 0), 5);
        due("steps", x.told(0, 3), 0);
    }

    // ---- promise 7

    static void promise07RoomIsFrom0To9() {
        Edges.range(0, 9, (x, v) -> x.room(v, 0, 4));
        Edges.range(0, 9, (x, v) -> x.room(v, 1, 4));
    }

    static void promise07WhatIs0Or1() {
        Edges.range(0, 1, (x, v) -> x.room(0, v, 4));
    }

    static void promise07FloorIsFrom0To9() {
        Edges.range(0, 9, (x, v) -> x.room(6, 0, v));
        SoleWear x = new SoleWear();
        due("room(9, 0, 9)", x.room(9, 0, 9), 1);
        due("room(9, 0, 0)", x.room(9, 0, 0), 9);
        due("room(9, 0, 1)", x.room(9, 0, 1), 0);
    }

    static void promise07LeadsToARoomFrom0To9() {
        Edges.range(0, 9, (x, v) -> x.room(6, 1, v));
        SoleWear x = new SoleWear();
        due("room(4, 1, 9)", x.room(4, 1, 9), 4);
        due("room(4, 1, 0)", x.room(4, 1, 0), 9);
        due("room(4, 1, 4)", x.room(4, 1, 4), 0);
    }

    // ---- promise 8

    static void promise08RoomIsFrom0To9() {
        Edges.range(0, 9, (x, v) -> x.sweep(v));
    }

    static void promise08ASweptRoomHasNoMarks() {
        SoleWear x = one(2, 8, 99, 1);
        due("where nobody came", x.sweep(9), 0);
        x.hours(1);
        due("sweep(9)", x.sweep(9), 1);
        due("sweep(9)", x.sweep(9), 0);
        due("rooms with marks", x.house(5), 0);
    }

    // ---- promise 9

    static void promise09WatchIsFrom0To100() {
        Edges.range(0, 100, (x, v) -> x.watch(v));
        SoleWear x = new SoleWear();
        due("watch(100)", x.watch(100), 0);
        due("watch(0)", x.watch(0), 100);
        due("count(2)", x.count(2), 0);
    }

    private static int looks(int rest, int watch) {
        SoleWear x = new SoleWear();
        x.seed(Edges.zWithRest(0, 100, rest));
        x.watch(watch);
        x.hours(1);
        return x.house(1);
    }

    static void promise09ItLooksIfTheRestIsBelowWatch() {
        due("rest 0, watch 0", looks(0, 0), 0);
        due("rest 0, watch 1", looks(0, 1), 1);
        due("rest 50, watch 50", looks(50, 50), 0);
        due("rest 50, watch 51", looks(50, 51), 1);
        due("rest 99, watch 99", looks(99, 99), 0);
        due("rest 99, watch 100", looks(99, 100), 1);
    }

    static void promise09ItDrawsOnceOrTwice() {
        SoleWear x = new SoleWear();
        x.hours(1);
        due("one draw", x.count(6), Edges.nextZ(1));
        x.seed(1);
        x.watch(100);
        x.hours(1);
        due("two draws", x.count(6), Edges.nextZ(Edges.nextZ(1)));
    }

    static void promise09TheFirstAndTheLastRoomAreLookedAt() {
        for (int r : new int[] {0, 9}) {
            SoleWear x = new SoleWear();
            x.dancer(0, r, 9, 0);
            x.dancer(0, 9 - r, 9, 0);
            x.dancer(0, r, 0, 0);
            x.watch(100);
            x.seed(Edges.zWithRest(1, 10, r));
            x.hours(1);
            due("seen at " + r, x.house(0), 2);
        }
    }

    // ---- promise 10

    static void promise10RoomIsFrom0To9() {
        Edges.range(0, 9, (x, v) -> x.at(v));
    }

    static void promise10SetsOfNoneAndOfAll() {
        SoleWear x = new SoleWear();
        for (int d = 0; d < 12; d++) x.dancer(0, 9, 0, 0);
        due("all", x.at(9), 4095);
        due("none", x.at(0), 0);
        x.set(11, 1, 0);
        due("the last one", x.at(0), 2048);
        x.set(0, 1, 1);
        due("the first one", x.at(1), 1);
    }

    // ---- promise 11

    static void promise11RoomIsFrom0To9() {
        Edges.range(0, 9, (x, v) -> x.round(v));
    }

    static void promise11ARoomThatLeadsToItselfIs1() {
        for (int r = 0; r < 10; r++) due("round(" + r + ")", new SoleWear().round(r), 1);
    }

    static void promise11AllRoomsInOneRingAre10() {
        for (int r = 0; r < 10; r++) due("round(" + r + ")", Edges.ring().round(r), 10);
    }

    static void promise11TheLongestWayIntoARing() {
        SoleWear x = Edges.ring();
        x.room(9, 1, 9);
        due("into a ring of one", x.round(0), 1);
        x.room(9, 1, 8);
        due("into a ring of two", x.round(0), 2);
        x.room(9, 1, 1);
        due("into a ring of nine", x.round(0), 9);
    }

    // ---- promise 12

    static void promise12FromIsARoom() {
        Edges.range(0, 9, (x, v) -> x.to(v, 4));
    }

    static void promise12RoomIsARoom() {
        Edges.range(0, 9, (x, v) -> x.to(4, v));
    }

    static void promise12TheSameRoomIs0() {
        for (int r = 0; r < 10; r++) due("to(" + r + ", " + r + ")", Edges.ring().to(r, r), 0);
    }

    static void promise12TheFarthestIs9() {
        SoleWear x = Edges.ring();
        due("to(0, 9)", x.to(0, 9), 9);
        due("to(0, 1)", x.to(0, 1), 1);
        due("to(5, 4)", x.to(5, 4), 9);
    }

    static void promise12NeverIsNone() {
        SoleWear x = Edges.ring();
        x.room(9, 1, 1);
        due("to(1, 0)", x.to(1, 0), NONE);
        due("to(9, 0)", x.to(9, 0), NONE);
        due("to(0, 9)", x.to(0, 9), 9);
        due("to(3, 4) of new ones", new SoleWear().to(3, 4), NONE);
    }

    // ---- promise 13

    static void promise13NIsFrom1To12() {
        Edges.range(1, 12, (x, v) -> x.deal(v));
        Edges.range(1, 12, Edges::crowded, (x, v) -> x.deal(v));
        due("deal(1)", new SoleWear().deal(1), 1);
        due("deal(12)", new SoleWear().deal(12), 12);
    }

    static void promise13AsManyAsThereIsRoomFor() {
        SoleWear x = new SoleWear();
        due("deal(11)", x.deal(11), 11);
        due("deal(2)", x.deal(2), 1);
        due("deal(1)", x.deal(1), 0);
        due("deal(12)", x.deal(12), 0);
        due("count(0)", x.count(0), 12);
    }

    static void promise13NoDrawsForOthers() {
        SoleWear x = new SoleWear();
        x.deal(12);
        int z = 1;
        for (int i = 0; i < 48; i++) z = Edges.nextZ(z);
        due("z behind twelve", x.count(6), z);
        x.deal(12);
        due("z behind none", x.count(6), z);
        SoleWear y = new SoleWear();
        for (int d = 0; d < 11; d++) y.dancer(0, 0, 0, 0);
        y.deal(12);
        z = 1;
        for (int i = 0; i < 4; i++) z = Edges.nextZ(z);
        due("z behind one", y.count(6), z);
    }

    static void promise13TheEndsOfWhatIsDrawn() {
        int[] by = {6, 10, 200, 6}, least = {0, 0, 1, 0};
        for (int what = 0; what < 4; what++) {
            for (int rest : new int[] {0, by[what] - 1}) {
                SoleWear x = new SoleWear();
                x.seed(Edges.zWithRest(what, by[what], rest));
                x.deal(1);
                due("told(0, " + what + ")", x.told(0, what), least[what] + rest);
            }
        }
    }

    // ---- promise 14

    static void promise14AnyNumberIsTaken() {
        SoleWear x = new SoleWear();
        int[] all = {LEAST, -1, 0, MOST, BAD, NONE};
        int was = 1;
        for (int v : all) {
            due("seed(" + v + ")", x.seed(v), was);
            was = v;
        }
        due("count(6)", x.count(6), NONE);
    }

    static void promise14DrawsWrapAround() {
        // 1103515245 * 2 + 12345 is 2207042835, which is -2087924461 as an int.
        SoleWear x = new SoleWear();
        x.seed(2);
        x.hours(1);
        due("z", x.count(6), -2087924461);
    }

    static void promise14ADrawOfANegativeZIsNotNegative() {
        // z = 2: (4294967296 - 2087924461) / 256 is 8621261; its rest by 100 is 61.
        for (int watch : new int[] {61, 62}) {
            SoleWear x = new SoleWear();
            x.seed(2);
            x.watch(watch);
            x.hours(1);
            due("looked by " + watch, x.house(1), watch - 61);
        }
    }
}
