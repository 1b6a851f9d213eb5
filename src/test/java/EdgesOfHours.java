/** The edges that the document names of an hour and of the house: promises 15 and 16. */
final class EdgesOfHours {
    private static final int BAD = Edges.BAD;

    private EdgesOfHours() { }

    private static void due(String call, int got, int want) {
        Edges.due(call, got, want);
    }

    private static SoleWear one(int kind, int sole, int steps) {
        SoleWear x = Edges.ring();
        x.dancer(kind, 0, sole, steps);
        return x;
    }

    // ---- promise 15

    static void promise15NIsFrom1To100() {
        Edges.range(1, 100, (x, v) -> x.hours(v));
        Edges.range(1, 100, Edges::atTheLastHour, (x, v) -> x.hours(v));
        for (int n : new int[] {1, 100}) {
            SoleWear x = one(0, 999, 1);
            due("hours(" + n + ")", x.hours(n), n);
            due("the hour", x.count(1), n);
        }
    }

    static void promise15NoMoreHoursThanUpTo9999() {
        SoleWear x = one(0, 999, 1);
        for (int r = 0; r < 10; r++) x.room(r, 0, 0);
        for (int i = 0; i < 99; i++) x.hours(100);
        due("hours(99)", x.hours(99), 99);
        due("the last one", x.count(1), 9999);
        due("hours(1)", x.hours(1), 0);
        due("hours(100)", x.hours(100), 0);
        due("the hour stays", x.count(1), 9999);
        due("danced", x.told(0, 4), 9999);
    }

    static void promise15OfTooManyHoursThoseAreTakenThatAreLeft() {
        SoleWear x = one(0, 999, 1);
        for (int r = 0; r < 10; r++) x.room(r, 0, 0);
        for (int i = 0; i < 99; i++) x.hours(100);
        x.hours(97);
        due("the hour", x.count(1), 9997);
        due("hours(100)", x.hours(100), 2);
        due("the hour", x.count(1), 9999);
    }

    static void promise15AtTheLastHourNothingChanges() {
        Edges.alike(Edges::atTheLastHour, x -> x.hours(100), x -> 0);
    }

    static void promise15NoDancersDanceNoRooms() {
        SoleWear x = Edges.ring();
        due("hours(100)", x.hours(100), 0);
        due("the hour", x.count(1), 100);
    }

    static void promise15ABarefootOneStays() {
        SoleWear x = one(0, 0, 5);
        due("hours(9)", x.hours(9), 0);
        due("at", x.told(0, 1), 0);
        due("danced", x.told(0, 4), 0);
        due("marks", x.house(2), 0);
    }

    static void promise15ASoleOf1GoesOneRoomMore() {
        SoleWear x = one(0, 1, 5);
        due("hours(9)", x.hours(9), 1);
        due("at", x.told(0, 1), 1);
        due("sole", x.told(0, 2), 0);
        due("danced", x.told(0, 4), 1);
    }

    static void promise15OneStopsWhereTheSoleIsThrough() {
        // Floors of 1: the third room takes the last of the sole, two steps are left.
        SoleWear x = one(0, 3, 5);
        due("hours(1)", x.hours(1), 3);
        due("at", x.told(0, 1), 3);
        SoleWear y = one(0, 5, 5);
        due("just enough", y.hours(1), 5);
        due("sole", y.told(0, 2), 0);
        SoleWear z = one(0, 6, 5);
        due("one is left", z.hours(1), 5);
        due("sole", z.told(0, 2), 1);
    }

    static void promise15SoleIs0AtLeast() {
        SoleWear x = one(0, 8, 1);
        x.room(1, 0, 9);
        due("hours(1)", x.hours(1), 1);
        due("sole", x.told(0, 2), 0);
        due("soles", x.house(3), 0);
        due("barefoot", x.house(4), 1);
    }

    static void promise15WhoIsThroughLeavesMarksStill() {
        SoleWear x = one(2, 1, 5);
        x.room(1, 0, 9);
        due("hours(1)", x.hours(1), 1);
        due("marks of the last room", x.sweep(1), 2);
    }

    static void promise15AFloorOf0DoesNotWear() {
        SoleWear x = one(0, 1, 5);
        for (int r = 0; r < 10; r++) x.room(r, 0, 0);
        due("hours(100)", x.hours(100), 500);
        due("sole", x.told(0, 2), 1);
    }

    static void promise15NoStepsNoRooms() {
        SoleWear x = one(0, 9, 0);
        due("hours(100)", x.hours(100), 0);
        due("sole", x.told(0, 2), 9);
    }

    static void promise15TheWayGoesRoundFrom9To0() {
        SoleWear x = one(0, 99, 2);
        x.set(0, 1, 9);
        due("hours(1)", x.hours(1), 2);
        due("at", x.told(0, 1), 1);
    }

    static void promise15TheTwelfthDancerGoesAsWell() {
        SoleWear x = Edges.ring();
        for (int d = 0; d < 12; d++) x.dancer(0, 9, 99, 1);
        due("hours(1)", x.hours(1), 12);
        due("at(0)", x.at(0), 4095);
    }

    static void promise15WearOfATextIsHeldInAnHour() {
        SoleWear x = one(0, 300, 1);
        Edges.text(x, "wear 100");
        x.hours(1);
        due("99 at most", x.told(0, 2), 201);
        Edges.text(x, "wear 0-1");
        x.hours(1);
        due("0 at least", x.told(0, 2), 201);
    }

    static void promise15AtTheHour11TheTwelfthGoesOneMore() {
        SoleWear x = one(5, 999, 0);
        due("the hours 0 to 10", x.hours(11), 0);
        due("the hour 11", x.hours(1), 1);
        due("the hours 12 to 22", x.hours(11), 0);
        due("the hour 23", x.hours(1), 1);
    }

    static void promise15GoesIsToldOnceAheadOfTheHour() {
        // At the hour 10 a twelfth one goes its steps, though the hour 11 is next.
        SoleWear x = one(5, 999, 2);
        x.hours(10);
        due("the hour 10", x.hours(1), 2);
        due("the hour 11", x.hours(1), 3);
    }

    // ---- promise 16

    static void promise16WhatIsFrom0To5() {
        Edges.range(0, 5, (x, v) -> x.house(v));
    }

    static void promise16SetsOfNoneAndOfAllDancers() {
        SoleWear x = new SoleWear();
        due("no dancers", x.house(4), 0);
        for (int d = 0; d < 12; d++) x.dancer(0, 0, 0, 0);
        due("all barefoot", x.house(4), 4095);
        for (int d = 0; d < 11; d++) x.set(d, 2, 1);
        due("the last one", x.house(4), 2048);
        x.set(11, 2, 1);
        due("none with a sole of 1", x.house(4), 0);
    }

    static void promise16SetsOfNoneAndOfAllRooms() {
        SoleWear x = one(2, 999, 5);
        due("no marks", x.house(5), 0);
        x.hours(2);
        due("marks all over", x.house(5), 1023);
        due("marks", x.house(2), 10);
        for (int r = 0; r < 9; r++) x.sweep(r);
        due("the last room", x.house(5), 512);
    }

    static void promise16SolesAtTheirMost() {
        SoleWear x = new SoleWear();
        for (int d = 0; d < 12; d++) x.dancer(0, 0, 999, 0);
        due("house(3)", x.house(3), 11988);
    }

    static void promise16BadChangesNothingOfABareHouse() {
        Edges.refused(BAD, SoleWear::new, x -> x.house(6));
    }
}
