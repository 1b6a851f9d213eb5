/** The edges that the document names of what will be: promises 17 to 26. */
final class EdgesOfThought {
    private static final int BAD = Edges.BAD, NONE = Edges.NONE, NOTHING = Edges.NOTHING;

    private EdgesOfThought() { }

    private static void due(String call, int got, int want) {
        Edges.due(call, got, want);
    }

    /** Dancers at these rooms of the ring, each with a sole of 999 and one step. */
    private static SoleWear ringWith(int... rooms) {
        SoleWear x = Edges.ring();
        for (int r : rooms) x.dancer(0, r, 999, 1);
        return x;
    }

    private static SoleWear withSoles(int... soles) {
        SoleWear x = Edges.ring();
        for (int s : soles) x.dancer(0, 0, s, 1);
        return x;
    }

    private static void mend(SoleWear x) {
        for (int r = 0; r < 10; r++) x.room(r, 0, 0);
    }

    // ---- promise 17

    static void promise17NIsFrom0To100() {
        Edges.range(0, 100, (x, v) -> x.behind(v, 1));
    }

    static void promise17WhatIsFrom0ToTheLastDancer() {
        Edges.range(0, 5, (x, v) -> x.behind(7, v));
        Edges.range(0, 14, Edges::crowded, (x, v) -> x.behind(7, v));
        Edges.range(0, 2, SoleWear::new, (x, v) -> x.behind(7, v));
    }

    static void promise17BehindNoHoursAllIsAsItIs() {
        SoleWear x = Edges.lived();
        due("seen", x.behind(0, 0), x.house(0));
        due("marks", x.behind(0, 1), x.house(2));
        due("barefoot", x.behind(0, 2), x.house(4));
        for (int d = 0; d < 3; d++) due("at of " + d, x.behind(0, 3 + d), x.told(d, 1));
    }

    static void promise17BehindTheMostHours() {
        SoleWear x = withSoles(99, 100, 101);
        due("barefoot behind 99", x.behind(99, 2), 1);
        due("barefoot behind 100", x.behind(100, 2), 3);
        due("at behind 100", x.behind(100, 5), 0);
        due("at behind 99", x.behind(99, 5), 9);
        due("at of the one who is through", x.behind(100, 3), 9);
    }

    static void promise17TheLastHourIsNoBound() {
        SoleWear x = Edges.atTheLastHour();
        due("behind(1, 3)", x.behind(1, 3), 1);
        due("behind(100, 3)", x.behind(100, 3), 0);
        due("behind(99, 3)", x.behind(99, 3), 9);
        // The hours go on beyond 9999: 10007 is 11 by 12.
        x.dancer(5, 0, 99, 0);
        due("ahead of the hour 10007", x.behind(8, 5), 0);
        due("behind the hour 10007", x.behind(9, 5), 1);
    }

    static void promise17NothingChanges() {
        for (int n : new int[] {0, 100}) {
            for (int what = 0; what <= 5; what++) {
                int w = what;
                Edges.onlyThought(Edges::lived, x -> x.behind(n, w));
            }
        }
        Edges.onlyThought(Edges::atTheLastHour, x -> x.behind(100, 2));
    }

    static void promise17TheSameDrawsAreThoughtAsComeThen() {
        SoleWear x = Edges.crowded();
        int seen = x.behind(100, 0);
        int marks = x.behind(100, 1);
        x.hours(100);
        due("seen", x.house(0), seen);
        due("marks", x.house(2), marks);
    }

    // ---- promise 18

    static void promise18TheFirstHourIsToldAs1() {
        due("through()", withSoles(1).through(), 1);
        due("through()", withSoles(2).through(), 2);
    }

    static void promise18TheLastHourIs200() {
        due("through()", withSoles(199).through(), 199);
        due("through()", withSoles(200).through(), 200);
        due("through()", withSoles(201).through(), NONE);
    }

    static void promise18NotByThenIsNone() {
        due("no dancers", new SoleWear().through(), NONE);
        SoleWear x = withSoles(1);
        x.set(0, 3, 0);
        due("no steps", x.through(), NONE);
        due("all barefoot", withSoles(0, 0).through(), NONE);
    }

    static void promise18WhoIsBarefootAlreadyDoesNotCount() {
        due("one more", withSoles(0, 0, 7, 9).through(), 7);
        due("two at once", withSoles(0, 7, 7).through(), 7);
    }

    static void promise18TheLastHourIsNoBound() {
        SoleWear x = Edges.atTheLastHour();
        due("never by then", x.through(), NONE);
        x.set(0, 2, 200);
        due("through()", x.through(), 200);
    }

    static void promise18NothingChanges() {
        Edges.onlyThought(Edges::crowded, SoleWear::through);
        Edges.onlyThought(Edges::lived, SoleWear::through);
    }

    // ---- promise 19

    static void promise19NIsFrom1To60() {
        Edges.range(1, 60, (x, v) -> x.post(v, 0));
    }

    static void promise19WhatIs0Or1() {
        Edges.range(0, 1, (x, v) -> x.post(5, v));
    }

    static void promise19TheEndOfEachHourCountsNotTheBegin() {
        SoleWear x = ringWith(8);
        due("behind one", x.post(1, 0), 9);
        due("behind one", x.post(1, 1), 1);
        x.dancer(0, 9, 0, 0);
        due("who stays counts each hour", x.post(60, 0), 9);
        due("who stays counts each hour", x.post(60, 1), 66);
    }

    static void promise19OfSeveralTheLeast() {
        SoleWear x = ringWith(8, 3);
        due("of two", x.post(1, 0), 4);
        due("all ten alike", x.post(10, 0), 0);
        due("all ten alike", x.post(10, 1), 2);
        due("the room 9 alone", ringWith(8).post(1, 0), 9);
    }

    static void promise19EachRoomCanBeThePost() {
        for (int r = 0; r < 10; r++) {
            SoleWear x = new SoleWear();
            x.dancer(0, r, 0, 0);
            due("post(1, 0)", x.post(1, 0), r);
            due("post(1, 1)", x.post(1, 1), 1);
        }
    }

    static void promise19NoDancers() {
        due("post(60, 0)", new SoleWear().post(60, 0), 0);
        due("post(60, 1)", new SoleWear().post(60, 1), 0);
    }

    static void promise19AllDancersAtTheMost() {
        SoleWear x = new SoleWear();
        for (int d = 0; d < 12; d++) x.dancer(0, 9, 0, 0);
        due("post(60, 0)", x.post(60, 0), 9);
        due("post(60, 1)", x.post(60, 1), 720);
    }

    static void promise19TheLastHourIsNoBound() {
        SoleWear x = Edges.atTheLastHour();
        due("post(4, 0)", x.post(4, 0), 5);
        due("post(60, 1)", x.post(60, 1), 66);
    }

    static void promise19NothingChanges() {
        Edges.onlyThought(Edges::lived, x -> x.post(60, 1));
    }

    // ---- promise 20

    static void promise20DancerIsOneThatIs() {
        Edges.range(0, 2, (x, v) -> x.began(v, 3));
        Edges.refused(BAD, SoleWear::new, x -> x.began(0, 0));
    }

    static void promise20NIsFrom0To60() {
        Edges.range(0, 60, (x, v) -> x.began(1, v));
    }

    static void promise20ForNoHoursItIsTheRoomItself() {
        for (int r = 0; r < 10; r++) due("began(0, 0)", ringWith(r).began(0, 0), 1 << r);
    }

    static void promise20ForTheMostHours() {
        due("began(0, 60)", ringWith(4).began(0, 60), 1 << 4);
        due("began(0, 59)", ringWith(4).began(0, 59), 1 << 5);
    }

    static void promise20AllRoomsOrNone() {
        SoleWear x = ringWith(9);
        for (int r = 0; r < 10; r++) x.room(r, 1, 9);
        due("all", x.began(0, 1), 1023);
        for (int r = 0; r < 10; r++) x.room(r, 1, 8);
        due("none", x.began(0, 1), 0);
    }

    static void promise20ABarefootOneBeganWhereItIs() {
        due("began(0, 60)", withSoles(0).began(0, 60), 1);
        due("a sole of 1", withSoles(1).began(0, 60), 1 << 9);
    }

    static void promise20TheLastHourIsNoBound() {
        SoleWear x = Edges.atTheLastHour();
        due("began(0, 3)", x.began(0, 3), 1 << 7);
        x.dancer(5, 4, 99, 0);
        due("ahead of the hour 10007", x.began(2, 8), 1 << 4);
        due("behind the hour 10007", x.began(2, 9), 1 << 3);
    }

    static void promise20NothingChanges() {
        Edges.onlyThought(Edges::lived, x -> x.began(1, 60));
    }

    // ---- promise 21

    static void promise21NIsFrom1To60() {
        Edges.range(1, 60, (x, v) -> x.mended(v, 0));
    }

    static void promise21WhatIs0Or1() {
        Edges.range(0, 1, (x, v) -> x.mended(5, v));
    }

    static void promise21OfSeveralTheLeast() {
        SoleWear x = ringWith(2);
        due("round the ring", x.mended(10, 0), 0);
        due("the first room", x.mended(1, 0), 3);
        due("of three rooms", x.mended(3, 0), 3);
        due("the last room", ringWith(8).mended(1, 0), 9);
    }

    static void promise21EachRoomCanBeMended() {
        for (int r = 0; r < 10; r++) {
            SoleWear x = ringWith((r + 9) % 10);
            x.room(r, 0, 9);
            due("mended(1, 0)", x.mended(1, 0), r);
            due("mended(1, 1)", x.mended(1, 1), 999);
        }
    }

    static void promise21ForTheMostHours() {
        due("mended(60, 1)", ringWith(0).mended(60, 1), 999 - 54);
        due("mended(59, 1)", ringWith(0).mended(59, 1), 999 - 53);
    }

    static void promise21NoDancers() {
        due("mended(60, 0)", new SoleWear().mended(60, 0), 0);
        due("mended(60, 1)", new SoleWear().mended(60, 1), 0);
    }

    static void promise21AllBarefoot() {
        due("mended(60, 0)", withSoles(0, 0).mended(60, 0), 0);
        due("mended(60, 1)", withSoles(0, 0).mended(60, 1), 0);
    }

    static void promise21AFloorOf0NeedsNoMending() {
        SoleWear x = ringWith(0);
        mend(x);
        due("mended(60, 0)", x.mended(60, 0), 0);
        due("mended(60, 1)", x.mended(60, 1), 999);
    }

    static void promise21TheLastHourIsNoBound() {
        SoleWear x = Edges.atTheLastHour();
        due("mended(1, 0)", x.mended(1, 0), 1);
        due("mended(60, 1)", x.mended(60, 1), 600 - 54);
    }

    static void promise21NothingChanges() {
        Edges.onlyThought(Edges::lived, x -> x.mended(60, 1));
    }

    // ---- promise 22

    static void promise22OneIsOneThatIs() {
        Edges.range(0, 1, (x, v) -> x.meets(v, 2, 9));
        Edges.refused(BAD, x -> x.meets(3, 2, 9));
    }

    static void promise22OtherIsOneThatIs() {
        Edges.range(1, 2, (x, v) -> x.meets(0, v, 9));
        Edges.refused(BAD, x -> x.meets(0, 3, 9));
        Edges.refused(BAD, x -> x.meets(0, -1, 9));
    }

    static void promise22OneAndTheSameIsBad() {
        for (int d = 0; d < 3; d++) {
            int same = d;
            Edges.refused(BAD, x -> x.meets(same, same, 9));
        }
        Edges.refused(BAD, SoleWear::new, x -> x.meets(0, 1, 9));
    }

    static void promise22NIsFrom0To100() {
        Edges.range(0, 100, (x, v) -> x.meets(0, 2, v));
    }

    static void promise22WhoAreTogetherNowMeetBehind0() {
        due("meets(0, 1, 0)", ringWith(4, 4).meets(0, 1, 0), 0);
        due("meets(0, 1, 100)", ringWith(4, 4).meets(0, 1, 100), 0);
        due("not now", ringWith(4, 5).meets(0, 1, 0), NONE);
    }

    static void promise22TheLastHourOfN() {
        SoleWear x = ringWith(0, 9);
        x.set(1, 3, 0);
        due("meets(0, 1, 8)", x.meets(0, 1, 8), NONE);
        due("meets(0, 1, 9)", x.meets(0, 1, 9), 9);
        due("meets(1, 0, 9)", x.meets(1, 0, 9), 9);
    }

    static void promise22TheHundredthHour() {
        SoleWear x = new SoleWear();
        x.room(0, 1, 1);
        x.room(1, 1, 0);
        x.dancer(0, 0, 999, 1);
        x.dancer(0, 0, 99, 1);
        x.set(1, 1, 1);
        // They change rooms with one another until dancer 1 is through behind 99 hours.
        due("meets(0, 1, 99)", x.meets(0, 1, 99), NONE);
        due("meets(0, 1, 100)", x.meets(0, 1, 100), 100);
    }

    static void promise22NeverIsNone() {
        due("meets(0, 1, 100)", ringWith(0, 1).meets(0, 1, 100), NONE);
    }

    static void promise22TheLastHourIsNoBound() {
        SoleWear x = Edges.atTheLastHour();
        due("meets(0, 1, 5)", x.meets(0, 1, 5), 5);
        due("meets(0, 1, 4)", x.meets(0, 1, 4), NONE);
    }

    static void promise22NothingChanges() {
        Edges.onlyThought(Edges::lived, x -> x.meets(0, 1, 100));
    }

    // ---- promise 23

    static void promise23RoomIsFrom0To9() {
        Edges.range(0, 9, (x, v) -> x.leads(v, 5, 0));
    }

    static void promise23NIsFrom1To60() {
        Edges.range(1, 60, (x, v) -> x.leads(4, v, 1));
    }

    static void promise23WhatIs0Or1() {
        Edges.range(0, 1, (x, v) -> x.leads(4, 5, v));
    }

    /** One dancer goes from room 0; in the first hour this room is looked at. */
    private static SoleWear lookedAt(int room) {
        SoleWear x = ringWith(0);
        x.watch(100);
        x.seed(Edges.zLookingAt(room));
        return x;
    }

    static void promise23OfSeveralTheLeast() {
        due("all but 0", lookedAt(0).leads(0, 1, 0), 1);
        due("all but 9", lookedAt(9).leads(0, 1, 0), 0);
        due("all but 9", lookedAt(9).leads(0, 1, 1), 0);
    }

    static void promise23TheLastRoomCanBeTheBest() {
        // To itself it is seen at 0 first, by way of 1 to 8 it is seen at 5 then.
        SoleWear x = ringWith(0);
        for (int r = 1; r <= 8; r++) x.room(r, 1, 5);
        x.room(9, 1, 9);
        x.watch(100);
        x.seed(Edges.zLookingAt(0, 5));
        due("leads(0, 2, 0)", x.leads(0, 2, 0), 9);
        due("leads(0, 2, 1)", x.leads(0, 2, 1), 0);
    }

    static void promise23ItMayLeadWhereItLeadsNowOrToItself() {
        SoleWear x = lookedAt(5);
        x.room(0, 1, 0);
        due("to itself", x.leads(0, 1, 0), 0);
        due("a new object", new SoleWear().leads(9, 60, 0), 0);
    }

    static void promise23NoDancersNoOneIsSeen() {
        SoleWear x = new SoleWear();
        x.watch(100);
        due("leads(0, 60, 0)", x.leads(0, 60, 0), 0);
        due("leads(0, 60, 1)", x.leads(0, 60, 1), 0);
    }

    static void promise23TheLastHourIsNoBound() {
        SoleWear x = Edges.atTheLastHour();
        x.watch(100);
        x.seed(Edges.zLookingAt(0));
        due("seen if it stays", x.leads(0, 1, 0), 1);
        x.seed(Edges.zLookingAt(5));
        due("who stays is seen", x.leads(0, 1, 1), 1);
    }

    static void promise23NothingChanges() {
        Edges.onlyThought(Edges::lived, x -> x.leads(4, 60, 1));
    }

    // ---- promise 24

    static void promise24SheetIsFrom0To3() {
        Edges.range(0, 3, (x, v) -> x.whose(v, 0));
    }

    static void promise24WhatIs0Or1() {
        Edges.range(0, 1, (x, v) -> x.whose(0, v));
    }

    static void promise24AMissingSheetIsNothing() {
        Edges.refused(NOTHING, x -> x.whose(2, 0));
    }

    static void promise24NoDancersIsNone() {
        SoleWear x = new SoleWear();
        Edges.row(x, 0, 0, 1);
        due("whose(0, 0)", x.whose(0, 0), NONE);
        due("whose(0, 1)", x.whose(0, 1), NONE);
    }

    static void promise24BadAheadOfNothingAheadOfNone() {
        Edges.refused(BAD, SoleWear::new, x -> x.whose(4, 0));
        Edges.refused(BAD, SoleWear::new, x -> x.whose(0, 2));
        Edges.refused(NOTHING, SoleWear::new, x -> x.whose(0, 0));
    }

    static void promise24NoPlacesDifferNothing() {
        SoleWear x = withSoles(5, 6);
        Edges.row(x, 0, 0);
        due("whose(0, 0)", x.whose(0, 0), 0);
        due("whose(0, 1)", x.whose(0, 1), 0);
    }

    static void promise24NoNumbersDifferNothing() {
        SoleWear x = withSoles(5, 6);
        Edges.row(x, 0, 1, NONE, NONE);
        due("whose(0, 0)", x.whose(0, 0), 0);
        due("whose(0, 1)", x.whose(0, 1), 0);
        Edges.row(x, 1, 1, NONE, 5);
        due("behind one hour", x.whose(1, 0), 1);
        due("behind one hour", x.whose(1, 1), 0);
    }

    static void promise24OfSeveralTheLeast() {
        SoleWear x = withSoles(9, 11, 9);
        Edges.row(x, 0, 0, 10);
        due("all alike", x.whose(0, 0), 0);
        Edges.row(x, 0, 0, 11);
        due("whose(0, 0)", x.whose(0, 0), 1);
        Edges.row(x, 0, 0, 8);
        due("the first of two", x.whose(0, 0), 0);
    }

    static void promise24TheTwelfthDancerCounts() {
        SoleWear x = new SoleWear();
        for (int d = 0; d < 12; d++) x.dancer(0, 0, d, 0);
        Edges.row(x, 0, 0, 999);
        due("whose(0, 0)", x.whose(0, 0), 11);
        due("whose(0, 1)", x.whose(0, 1), 988);
    }

    static void promise24The24thPlaceIsBehind23Hours() {
        SoleWear x = withSoles(100);
        int[] soles = new int[24];
        for (int k = 0; k < 24; k++) soles[k] = 100 - k;
        Edges.row(x, 0, 0, soles);
        due("all as told", x.whose(0, 1), 0);
        x.mark(0, 23, 70);
        due("seven off behind 23", x.whose(0, 1), 7);
        x.mark(0, 0, 104);
        due("and four off now", x.whose(0, 1), 11);
    }

    static void promise24SignsAreLeftOut() {
        SoleWear x = withSoles(5);
        Edges.row(x, 0, 1, 99999, -99999);
        due("whose(0, 1)", x.whose(0, 1), 99994 + 100003);
        int[] far = new int[24];
        for (int k = 0; k < 24; k++) far[k] = -99999;
        x.set(0, 3, 0);
        x.set(0, 2, 999);
        Edges.row(x, 0, 1, far);
        due("the most", x.whose(0, 1), 24 * 100998);
    }

    static void promise24TheLastHourIsNoBound() {
        SoleWear x = Edges.atTheLastHour();
        Edges.row(x, 0, 0, 300, 299, 298);
        due("whose(0, 0)", x.whose(0, 0), 0);
        due("whose(0, 1)", x.whose(0, 1), 0);
    }

    static void promise24NothingChanges() {
        Edges.onlyThought(Edges::lived, x -> x.whose(1, 1));
    }

    // ---- promise 25

    static void promise25WithoutATextItIsSeen() {
        SoleWear x = new SoleWear();
        due("a new object", x.fee(), 0);
        x.dancer(0, 2, 0, 0);
        x.watch(100);
        x.hours(1);
        due("seen by z = 1", x.fee(), 1);
    }

    static void promise25WhatFeeGivesHasNoBounds() {
        String[] gives = {"0-1", "0-9999*9999", "8192*8192*32", "0-(8192*8192*32)-1"};
        int[] due = {-1, -99980001, Edges.LEAST, Edges.MOST};
        for (int i = 0; i < gives.length; i++) {
            SoleWear x = new SoleWear();
            Edges.text(x, "fee " + gives[i]);
            due("fee " + gives[i], x.fee(), due[i]);
        }
    }

    static void promise25NothingChanges() {
        Edges.onlyThought(Edges::lived, SoleWear::fee);
    }

    // ---- promise 26

    static void promise26DancerIsOneThatIs() {
        Edges.range(0, 2, (x, v) -> x.fine(v));
        Edges.refused(BAD, SoleWear::new, x -> x.fine(0));
    }

    static void promise26WithoutATextItIsDanced() {
        SoleWear x = ringWith(0);
        due("not danced", x.fine(0), 0);
        x.hours(7);
        due("danced", x.fine(0), 7);
    }

    static void promise26WhatFineGivesHasNoBounds() {
        SoleWear x = ringWith(0);
        Edges.text(x, "fine 8192*8192*32");
        due("the least", x.fine(0), Edges.LEAST);
        Edges.text(x, "fine 0-(8192*8192*32)-1");
        due("the most", x.fine(0), Edges.MOST);
    }

    static void promise26NothingChanges() {
        Edges.onlyThought(Edges::lived, x -> x.fine(1));
    }
}
