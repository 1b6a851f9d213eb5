/** The edges that the document names of sheets and slots: promises 32 to 40. */
final class EdgesOfSheets {
    private static final int BAD = Edges.BAD, NO = Edges.NO, NONE = Edges.NONE, NOTHING = Edges.NOTHING;
    private static final int KIND = Edges.KIND, INDEX = Edges.INDEX, SIZE = Edges.SIZE, LEAST = Edges.LEAST, MOST = Edges.MOST;

    private EdgesOfSheets() { }

    private static void due(String call, int got, int want) {
        Edges.due(call, got, want);
    }

    private static void dueRow(SoleWear x, int sheet, int... want) {
        int[] got = Edges.ofSheet(x, sheet, want.length);
        for (int i = 0; i < want.length; i++) due("place " + i + " of sheet " + sheet, got[i], want[i]);
        due("behind the last place", x.item(0, want.length), INDEX);
    }

    private static SoleWear withRow(int sort, int... places) {
        SoleWear x = new SoleWear();
        Edges.row(x, 0, sort, places);
        return x;
    }

    // ---- promise 32

    static void promise32SheetIsFrom0To3() {
        Edges.range(0, 3, (x, v) -> x.sheet(v, 0, 4));
        Edges.range(0, 3, (x, v) -> x.sheet(v, -1, 4));
    }

    static void promise32SortIsFromMinus1To1() {
        Edges.range(-1, 1, (x, v) -> x.sheet(1, v, 4));
    }

    static void promise32NIsFrom0To24() {
        for (int sort = 0; sort <= 1; sort++) {
            int s = sort;
            due("sheet(0, " + sort + ", 0)", Edges.lived().sheet(0, sort, 0), 0);
            due("sheet(0, " + sort + ", 24)", Edges.lived().sheet(0, sort, 24), 24);
            for (int n : new int[] {25, 26, MOST}) Edges.refused(BAD, x -> x.sheet(0, s, n));
            for (int n : new int[] {-1, -24, LEAST}) Edges.refused(SIZE, x -> x.sheet(0, s, n));
        }
    }

    static void promise32ARowOfNoPlacesIsNotMissing() {
        SoleWear x = new SoleWear();
        due("sheet(0, 0, 0)", x.sheet(0, 0, 0), 0);
        due("reads(0)", x.reads(0), NONE);
        due("mark(0, 0, 1)", x.mark(0, 0, 1), INDEX);
    }

    static void promise32The24thPlaceIsTheLast() {
        SoleWear x = new SoleWear();
        x.sheet(3, 0, 24);
        due("mark(3, 23, 5)", x.mark(3, 23, 5), 1);
        due("mark(3, 24, 5)", x.mark(3, 24, 5), INDEX);
        int[] want = new int[24];
        want[23] = 5;
        dueRow(x, 3, want);
    }

    static void promise32OfMissingNIsAny() {
        for (int n : new int[] {LEAST, -1, 0, 24, 25, MOST}) {
            SoleWear x = Edges.lived();
            due("sheet(0, -1, " + n + ")", x.sheet(0, -1, n), 0);
            due("reads(0)", x.reads(0), NOTHING);
        }
    }

    static void promise32BadStandsAheadOfSize() {
        Edges.refused(BAD, x -> x.sheet(4, 0, -1));
        Edges.refused(BAD, x -> x.sheet(-1, 0, -1));
        Edges.refused(BAD, x -> x.sheet(0, 2, -1));
        Edges.refused(BAD, x -> x.sheet(0, -2, -1));
    }

    static void promise32AllPlacesAre0Anew() {
        SoleWear x = withRow(1, 7, NONE, 9);
        x.sheet(0, 1, 4);
        dueRow(x, 0, 0, 0, 0, 0);
        x.mark(0, 3, 9);
        x.sheet(0, 0, 2);
        x.sheet(0, 0, 4);
        dueRow(x, 0, 0, 0, 0, 0);
        x.mark(0, 0, 9);
        x.sheet(0, -1, 0);
        x.sheet(0, 0, 1);
        dueRow(x, 0, 0);
    }

    // ---- promise 33

    static void promise33SheetIsFrom0To3() {
        Edges.range(0, 3, (x, v) -> x.mark(v, 0, 4));
    }

    static void promise33AMissingSheetIsNothing() {
        Edges.refused(NOTHING, x -> x.mark(2, 0, 4));
    }

    static void promise33PlaceIsOneThatIs() {
        due("the first", Edges.lived().mark(0, 0, 4), 1);
        due("the last", Edges.lived().mark(0, 2, 4), 1);
        for (int place : new int[] {-1, 3, 23, 24, LEAST, MOST}) Edges.refused(INDEX, x -> x.mark(0, place, 4));
        Edges.refused(INDEX, x -> x.mark(3, 0, 4));
    }

    static void promise33OfShortsTheLowest16Bits() {
        int[] v = {32767, 32768, 65535, 65536, -1, -32768, -32769, 65537, LEAST, MOST, 100000};
        int[] want = {32767, -32768, -1, 0, -1, -32768, 32767, 1, 0, -1, -31072};
        dueRow(withRow(0, v), 0, want);
    }

    static void promise33OfFloatsFromMinus99999To99999() {
        SoleWear x = Edges.lived();
        due("99999", x.mark(1, 0, 99999), 1);
        due("-99999", x.mark(1, 1, -99999), 1);
        dueRow(x, 1, 99999, -99999, 99999, -3);
        for (int v : new int[] {100000, -100000, LEAST, MOST, NONE - 1, NONE + 1}) Edges.refused(BAD, y -> y.mark(1, 0, v));
    }

    static void promise33NoneIsNoNumberOfFloatsAlone() {
        SoleWear x = Edges.lived();
        due("of floats", x.mark(1, 0, NONE), 1);
        dueRow(x, 1, KIND, KIND, 99999, -3);
        due("a number again", x.mark(1, 1, 0), 1);
        dueRow(x, 1, KIND, 0, 99999, -3);
        Edges.refused(KIND, y -> y.mark(0, 0, NONE));
    }

    static void promise33TheRefusalsInTheirOrder() {
        Edges.refused(BAD, SoleWear::new, x -> x.mark(4, 99, NONE));
        Edges.refused(NOTHING, x -> x.mark(2, 99, NONE));
        Edges.refused(INDEX, x -> x.mark(0, 3, NONE));
        Edges.refused(INDEX, x -> x.mark(1, 4, 100000));
    }

    // ---- promise 34

    static void promise34SheetIsFrom0To3() {
        Edges.range(0, 3, (x, v) -> x.pour(v));
    }

    static void promise34AMissingSheetIsNothing() {
        Edges.refused(NOTHING, x -> x.pour(2));
    }

    private static void dueFloors(SoleWear x, int... want) {
        for (int r = 0; r < 10; r++) due("floor " + r, x.room(r, 0, 1), want[r]);
    }

    static void promise34FloorsAreHeldWithin0And9() {
        SoleWear x = withRow(1, -1, 0, 9, 10, -99999, 99999);
        due("pour(0)", x.pour(0), 6);
        dueFloors(x, 0, 0, 9, 9, 0, 9, 1, 1, 1, 1);
        SoleWear y = withRow(0, -32768, 32767);
        due("pour(0)", y.pour(0), 2);
        dueFloors(y, 0, 9, 1, 1, 1, 1, 1, 1, 1, 1);
    }

    static void promise34OfNoNumberTheFloorStays() {
        SoleWear x = withRow(1, NONE, 5, NONE);
        x.room(0, 0, 7);
        due("pour(0)", x.pour(0), 1);
        dueFloors(x, 7, 5, 1, 1, 1, 1, 1, 1, 1, 1);
    }

    static void promise34BeyondTheSheetFloorsStay() {
        SoleWear x = withRow(0, 5, 5);
        x.room(2, 0, 7);
        due("pour(0)", x.pour(0), 2);
        dueFloors(x, 5, 5, 7, 1, 1, 1, 1, 1, 1, 1);
        due("a row of no places", withRow(0).pour(0), 0);
    }

    static void promise34BeyondTheRoomsPlacesAreLeftOut() {
        SoleWear x = withRow(0, 2, 2, 2, 2, 2, 2, 2, 2, 2, 2, 2);
        due("pour(0)", x.pour(0), 10);
        dueFloors(x, 2, 2, 2, 2, 2, 2, 2, 2, 2, 2);
        SoleWear y = withRow(0, new int[24]);
        due("24 places", y.pour(0), 10);
        SoleWear z = withRow(0, 2, 2, 2, 2, 2, 2, 2, 2, 2);
        due("nine places", z.pour(0), 9);
        dueFloors(z, 2, 2, 2, 2, 2, 2, 2, 2, 2, 1);
    }

    static void promise34OnlyThoseThatAreOtherwiseCount() {
        SoleWear x = withRow(0, 1, 2, 1, 12);
        x.room(3, 0, 9);
        due("pour(0)", x.pour(0), 1);
        due("again", x.pour(0), 0);
    }

    // ---- promise 35

    /** Marks of 0 at room 0, of 1 at rooms 1 and 9, else 0. */
    private static SoleWear marked() {
        SoleWear x = new SoleWear();
        x.dancer(2, 1, 99, 1);
        x.dancer(2, 9, 99, 1);
        x.hours(1);
        return x;
    }

    static void promise35SheetIsFrom0To3() {
        Edges.range(0, 3, (x, v) -> x.reads(v));
    }

    static void promise35AMissingSheetIsNothing() {
        Edges.refused(NOTHING, x -> x.reads(2));
    }

    static void promise35AllAsMarksIsNone() {
        SoleWear x = marked();
        Edges.row(x, 0, 0, 0, 1, 0, 0, 0, 0, 0, 0, 0, 1);
        due("reads(0)", x.reads(0), NONE);
        Edges.row(x, 1, 1);
        due("no places", x.reads(1), NONE);
        Edges.row(x, 2, 1, NONE, NONE);
        due("no numbers", x.reads(2), NONE);
    }

    static void promise35TheFirstAndTheLastRoom() {
        SoleWear x = marked();
        Edges.row(x, 0, 0, 0, 1, 0, 0, 0, 0, 0, 0, 0, 2);
        due("the last", x.reads(0), 9);
        x.mark(0, 0, 1);
        due("the first", x.reads(0), 0);
    }

    static void promise35OfPlacesThatAreNoRoomAllNumbersAreNot() {
        SoleWear x = marked();
        Edges.row(x, 0, 0, 0, 1, 0, 0, 0, 0, 0, 0, 0, 1, 0);
        due("a 0 at the place 10", x.reads(0), 10);
        int[] places = new int[24];
        for (int p = 0; p < 24; p++) places[p] = NONE;
        Edges.row(x, 1, 1, places);
        due("no numbers", x.reads(1), NONE);
        x.mark(1, 23, 0);
        due("a 0 at the last place", x.reads(1), 23);
    }

    static void promise35NoNumberIsPassedOver() {
        SoleWear x = marked();
        Edges.row(x, 0, 1, NONE, NONE, NONE, 4);
        due("reads(0)", x.reads(0), 3);
    }

    static void promise35NothingChanges() {
        Edges.onlyThought(Edges::lived, x -> x.reads(0));
    }

    // ---- promise 36

    static void promise36FromIsASheet() {
        Edges.range(0, 3, (x, v) -> x.copy(v, 0, 1, 0, 1));
    }

    static void promise36ToIsASheet() {
        Edges.range(0, 3, (x, v) -> x.copy(1, 0, v, 0, 1));
    }

    static void promise36AMissingSheetIsNothing() {
        Edges.refused(NOTHING, x -> x.copy(2, 0, 0, 0, 1));
        Edges.refused(NOTHING, x -> x.copy(0, 0, 2, 0, 1));
        Edges.refused(NOTHING, x -> x.copy(2, 0, 2, 0, 0));
    }

    static void promise36OtherSortsAreKind() {
        Edges.refused(KIND, x -> x.copy(0, 0, 1, 0, 1));
        Edges.refused(KIND, x -> x.copy(1, 0, 0, 0, 1));
        Edges.refused(KIND, x -> x.copy(0, 0, 3, 0, 0));
    }

    private static SoleWear withTwoRows() {
        SoleWear x = Edges.lived();
        Edges.row(x, 2, 0, 1, 2, 3, 4, 5);
        return x;
    }

    static void promise36TheLastPlacesThatCanBeCopied() {
        SoleWear x = withTwoRows();
        due("all of them", x.copy(0, 0, 2, 0, 3), 3);
        dueRow(x, 2, 5, -6, 7, 4, 5);
        due("to the end", x.copy(0, 1, 2, 3, 2), 2);
        dueRow(x, 2, 5, -6, 7, -6, 7);
        due("from the end", x.copy(2, 4, 0, 0, 1), 1);
        dueRow(x, 0, 7, -6, 7);
    }

    static void promise36PlacesThatAreNotAreIndex() {
        int[][] calls = {{-1, 0, 1}, {0, -1, 1}, {3, 0, 1}, {0, 5, 1}, {2, 0, 2}, {0, 4, 2}, {0, 0, 4}, {1, 0, 3}, {0, 3, 3},
            {LEAST, 0, 1}, {0, LEAST, 1}, {MOST, 0, 1}, {0, MOST, 1}, {0, 0, MOST}, {1, 1, MOST}, {MOST, MOST, MOST}, {-1, -1, 0}};
        for (int[] c : calls) Edges.refused(INDEX, EdgesOfSheets::withTwoRows, x -> x.copy(0, c[0], 2, c[1], c[2]));
    }

    static void promise36BelowNoPlacesIsIndex() {
        for (int many : new int[] {-1, -2, LEAST}) Edges.refused(INDEX, EdgesOfSheets::withTwoRows, x -> x.copy(0, 1, 2, 1, many));
    }

    static void promise36NoPlacesAreCopiedAtTheEndAsWell() {
        due("at the begin", withTwoRows().copy(0, 0, 2, 0, 0), 0);
        due("at the ends", withTwoRows().copy(0, 3, 2, 5, 0), 0);
        Edges.alike(EdgesOfSheets::withTwoRows, x -> x.copy(0, 3, 2, 5, 0), x -> 0);
        Edges.refused(INDEX, EdgesOfSheets::withTwoRows, x -> x.copy(0, 4, 2, 5, 0));
        Edges.refused(INDEX, EdgesOfSheets::withTwoRows, x -> x.copy(0, 3, 2, 6, 0));
        due("rows of no places", Edges.lived().copy(3, 0, 3, 0, 0), 0);
        Edges.refused(INDEX, x -> x.copy(3, 0, 3, 0, 1));
    }

    static void promise36PlacesComeAsTheyWereOfTheSameSheetToo() {
        SoleWear x = withRow(0, 1, 2, 3, 4, 5);
        due("up", x.copy(0, 0, 0, 1, 4), 4);
        dueRow(x, 0, 1, 1, 2, 3, 4);
        x = withRow(0, 1, 2, 3, 4, 5);
        due("down", x.copy(0, 1, 0, 0, 4), 4);
        dueRow(x, 0, 2, 3, 4, 5, 5);
        x = withRow(0, 1, 2, 3);
        due("onto itself", x.copy(0, 0, 0, 0, 3), 3);
        dueRow(x, 0, 1, 2, 3);
    }

    static void promise36All24Places() {
        SoleWear x = new SoleWear();
        int[] places = new int[24];
        for (int p = 0; p < 24; p++) places[p] = p + 1;
        Edges.row(x, 0, 1, places);
        x.sheet(3, 1, 24);
        due("copy", x.copy(0, 0, 3, 0, 24), 24);
        dueRow(x, 3, places);
        due("one more", x.copy(0, 0, 3, 0, 25), INDEX);
    }

    static void promise36TheRefusalsInTheirOrder() {
        Edges.refused(BAD, x -> x.copy(4, 9, 2, 9, 9));
        Edges.refused(BAD, x -> x.copy(2, 9, 4, 9, 9));
        Edges.refused(NOTHING, x -> x.copy(2, 9, 0, 9, 9));
        Edges.refused(NOTHING, x -> x.copy(1, 9, 2, 9, 9));
        Edges.refused(KIND, x -> x.copy(0, 9, 1, 9, 9));
    }

    // ---- promise 37

    static void promise37SlotIsFrom0To4() {
        Edges.range(0, 4, (x, v) -> x.lay(v, 3, 8));
    }

    static void promise37ThingIsFrom0To3() {
        Edges.range(0, 3, (x, v) -> x.lay(1, v, 0));
    }

    static void promise37OfADancerKIsOneThatIs() {
        Edges.range(0, 2, (x, v) -> x.lay(2, 1, v));
        Edges.range(0, 11, Edges::crowded, (x, v) -> x.lay(2, 1, v));
        Edges.refused(BAD, SoleWear::new, x -> x.lay(0, 1, 0));
    }

    static void promise37OfASheetKIsFrom0To3() {
        Edges.range(0, 3, (x, v) -> x.lay(1, 2, v));
    }

    static void promise37AMissingSheetIsNothing() {
        Edges.refused(NOTHING, x -> x.lay(1, 2, 2));
        Edges.refused(NOTHING, x -> x.lay(0, 2, 2));
        Edges.refused(BAD, x -> x.lay(5, 2, 2));
    }

    static void promise37OfNothingAndOfANumberKIsAny() {
        for (int k : new int[] {LEAST, -1, 0, 12, MOST, NONE}) {
            due("lay(1, 0, " + k + ")", Edges.lived().lay(1, 0, k), 1);
            SoleWear x = Edges.lived();
            due("lay(2, 3, " + k + ")", x.lay(2, 3, k), 2);
            due("rest", x.rest(2, 1000), k % 1000);
        }
    }

    static void promise37WhatItHeldIsFrom0To3() {
        int[] held = {0, 1, 2, 3, 2};
        for (int slot = 0; slot < 5; slot++) due("slot " + slot, Edges.lived().lay(slot, 0, 0), held[slot]);
    }

    static void promise37WhatIsHeldIsHeldForGood() {
        SoleWear x = Edges.lived();
        x.lay(0, 1, 2);
        x.turns(2, 0);
        x.set(2, 2, 0);
        due("the dancer", x.ask(0, 3), 416);
        x.mark(0, 0, 1);
        due("the sheet that was marked", x.item(4, 0), 5);
        x.sheet(0, -1, 0);
        due("the sheet that is missing now", x.item(4, 2), 7);
        due("no more places", x.item(4, 3), INDEX);
        x.back();
        due("the dancer who is no more", x.ask(0, 3), 416);
    }

    static void promise37SheetsOfNoAndOf24Places() {
        SoleWear x = Edges.lived();
        due("no places", x.lay(0, 2, 3), 0);
        due("item(0, 0)", x.item(0, 0), INDEX);
        x.sheet(3, 0, 24);
        x.mark(3, 23, 6);
        due("24 places", x.lay(0, 2, 3), 2);
        due("item(0, 23)", x.item(0, 23), 6);
    }

    // ---- promise 38

    static void promise38SlotIsFrom0To4() {
        Edges.range(0, 4, (x, v) -> x.ask(v, 0));
    }

    static void promise38KindIsFrom0To5() {
        Edges.range(0, 5, (x, v) -> x.ask(1, v));
    }

    static void promise38ASlotThatHoldsNothing() {
        for (int slot = 0; slot < 5; slot++) {
            int s = slot;
            Edges.refused(NOTHING, SoleWear::new, x -> x.ask(s, 5));
        }
        SoleWear x = Edges.lived();
        x.lay(1, 0, 0);
        due("emptied", x.ask(1, 0), NOTHING);
    }

    static void promise38OtherThingsAreKind() {
        Edges.refused(KIND, x -> x.ask(2, 0));
        Edges.refused(KIND, x -> x.ask(3, 0));
    }

    static void promise38AKindThatItIsNotIsKind() {
        String[] isOf = {"0", "01", "02", "013", "024", "05"};
        int[] worth = {31, 39, 968, 78, 961, 12};
        for (int k = 0; k < 6; k++) {
            int kind = k;
            Edges.Making making = () -> {
                SoleWear x = new SoleWear();
                x.dancer(kind, 0, 31, 0);
                x.lay(4, 1, 0);
                return x;
            };
            for (int a = 0; a < 6; a++) {
                int asked = a;
                if (isOf[k].indexOf('0' + a) >= 0) due("ask " + a + " of " + k, making.made().ask(4, a), worth[k]);
                else Edges.refused(KIND, making, x -> x.ask(4, asked));
            }
        }
    }

    static void promise38WorthAtTheEndsOfSole() {
        int[] at0 = {0, 8, 999, 16, 992, 12}, at999 = {999, 1007, 0, 2014, -7, 12};
        for (int k = 0; k < 6; k++) {
            SoleWear x = new SoleWear();
            x.dancer(k, 0, 0, 0);
            x.dancer(k, 0, 999, 0);
            x.lay(0, 1, 0);
            x.lay(1, 1, 1);
            due("sole 0 kind " + k, x.ask(0, 0), at0[k]);
            due("sole 999 kind " + k, x.ask(1, 0), at999[k]);
        }
    }

    static void promise38TheRefusalsInTheirOrder() {
        Edges.refused(BAD, x -> x.ask(5, 0));
        Edges.refused(BAD, x -> x.ask(0, 6));
        Edges.refused(BAD, x -> x.ask(3, -1));
    }

    // ---- promise 39

    static void promise39SlotIsFrom0To4() {
        Edges.range(0, 4, (x, v) -> x.item(v, 0));
    }

    static void promise39ASlotThatHoldsNothing() {
        Edges.refused(NOTHING, x -> x.item(0, 0));
        Edges.refused(NOTHING, x -> x.item(0, -1));
    }

    static void promise39OtherThingsAreKind() {
        Edges.refused(KIND, x -> x.item(1, 0));
        Edges.refused(KIND, x -> x.item(3, 0));
        Edges.refused(KIND, x -> x.item(3, -1));
    }

    static void promise39PlaceIsOneThatIs() {
        due("the first", Edges.lived().item(2, 0), 8);
        due("the last", Edges.lived().item(2, 3), -3);
        for (int place : new int[] {-1, 4, 23, 24, LEAST, MOST}) Edges.refused(INDEX, x -> x.item(2, place));
    }

    static void promise39NoNumberIsKind() {
        Edges.refused(KIND, x -> x.item(2, 1));
        due("the most", Edges.lived().item(2, 2), 99999);
    }

    static void promise39NothingChanges() {
        Edges.onlyThought(Edges::lived, x -> x.item(2, 0));
    }

    // ---- promise 40

    static void promise40SlotIsFrom0To4() {
        Edges.range(0, 4, (x, v) -> x.rest(v, 3));
    }

    static void promise40ASlotThatHoldsNothing() {
        Edges.refused(NOTHING, x -> x.rest(0, 3));
        Edges.refused(NOTHING, x -> x.rest(0, 0));
    }

    static void promise40OtherThingsAreKind() {
        Edges.refused(KIND, x -> x.rest(1, 3));
        Edges.refused(KIND, x -> x.rest(2, 3));
        Edges.refused(KIND, x -> x.rest(1, 0));
    }

    static void promise40By0IsNo() {
        Edges.refused(NO, x -> x.rest(3, 0));
    }

    private static int rest(int number, int n) {
        SoleWear x = new SoleWear();
        x.lay(4, 3, number);
        return x.rest(4, n);
    }

    static void promise40TheRestHasTheSignOfTheNumber() {
        due("7 by 3", rest(7, 3), 1);
        due("-7 by 3", rest(-7, 3), -1);
        due("7 by -3", rest(7, -3), 1);
        due("-7 by -3", rest(-7, -3), -1);
        due("0 by 5", rest(0, 5), 0);
        due("7 by 1", rest(7, 1), 0);
        due("7 by 8", rest(7, 8), 7);
    }

    static void promise40TheEndsOfInts() {
        due("the least by -1", rest(LEAST, -1), 0);
        due("the least by the least", rest(LEAST, LEAST), 0);
        due("the least by the most", rest(LEAST, MOST), -1);
        due("the most by the least", rest(MOST, LEAST), MOST);
    }
}
