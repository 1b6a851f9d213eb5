/** The edges that the document names of rows that are told and of images: promises 41 to 45. */
final class EdgesOfRows {
    private static final int BAD = Edges.BAD, NO = Edges.NO, FULL = Edges.FULL, NONE = Edges.NONE, NOTHING = Edges.NOTHING;
    private static final int LEAST = Edges.LEAST, MOST = Edges.MOST;

    private EdgesOfRows() { }

    private static void due(String call, int got, int want) {
        Edges.due(call, got, want);
    }

    /** An image is kept of one dancer with a sole of 500 who wears 3 an hour; nobody looks. */
    private static SoleWear imaged() {
        SoleWear x = Edges.ring();
        x.dancer(0, 0, 500, 3);
        x.keep();
        return x;
    }

    /** Tells the first of THE HOURS TOLD of what imaged keeps. */
    private static void tellRight(SoleWear x, int many) {
        for (int i = 0; i < many; i++) due("tell", x.tell(i % 2 == 0 ? 500 - 3 * (i / 2 + 1) : 0), i + 1);
    }

    // ---- promise 41

    private static SoleWear with60() {
        SoleWear x = Edges.lived();
        for (int i = x.count(4); i < 60; i++) x.tell(7);
        return x;
    }

    static void promise41TheSixtiethIsTakenTheNextIsFull() {
        SoleWear x = new SoleWear();
        for (int n = 1; n <= 60; n++) due("tell", x.tell(n), n);
        due("the next one", x.tell(61), FULL);
        due("count(4)", x.count(4), 60);
        Edges.refused(FULL, EdgesOfRows::with60, y -> y.tell(7));
    }

    static void promise41AnyNumberIsTaken() {
        int[] all = {LEAST, -1, 0, MOST, NONE, BAD};
        SoleWear x = new SoleWear();
        for (int i = 0; i < all.length; i++) due("tell(" + all[i] + ")", x.tell(all[i]), i + 1);
    }

    static void promise41BehindACheckTheyBeginAgain() {
        SoleWear x = with60();
        x.check(1);
        due("tell", x.tell(1), 1);
    }

    // ---- promise 42

    static void promise42NIsFrom1To30() {
        for (int n : new int[] {1, 30}) {
            SoleWear x = imaged();
            tellRight(x, 2 * n);
            due("check(" + n + ")", x.check(n), 0);
        }
        for (int n : new int[] {0, -1, 31, LEAST, MOST}) due("check(" + n + ")", imaged().check(n), BAD);
    }

    static void promise42NoneWaitThenWhateverIsAnswered() {
        for (int n : new int[] {1, 2, 30, 0, 31, LEAST}) {
            SoleWear x = Edges.lived();
            x.check(n);
            due("count(4) behind check(" + n + ")", x.count(4), 0);
            due("the next one", x.tell(5), 1);
        }
        SoleWear x = new SoleWear();
        x.tell(1);
        due("no image", x.check(1), NO);
        due("count(4)", x.count(4), 0);
    }

    static void promise42ElseNothingChanges() {
        for (int n : new int[] {0, 31, 2, 30}) Edges.alike(Edges::lived, x -> x.check(n), x -> x.check(1));
    }

    static void promise42BadStandsAheadOfNo() {
        due("bad", new SoleWear().check(0), BAD);
        due("bad", new SoleWear().check(31), BAD);
        due("no image", new SoleWear().check(1), NO);
        due("no image", new SoleWear().check(30), NO);
    }

    static void promise42TheFirstThatIsMissing() {
        for (int many : new int[] {0, 1, 2, 3, 59}) {
            SoleWear x = imaged();
            tellRight(x, many);
            due("check(30) of " + many, x.check(30), 1 + many);
        }
        SoleWear x = imaged();
        tellRight(x, 1);
        due("half an hour", x.check(1), 2);
    }

    static void promise42TheFirstThatIsOneTooMany() {
        SoleWear x = imaged();
        tellRight(x, 3);
        due("check(1) of three", x.check(1), 3);
        tellRight(x, 60);
        due("check(29) of sixty", x.check(29), 59);
        tellRight(x, 59);
        due("check(29) of 59", x.check(29), 59);
    }

    static void promise42TheFirstThatIsNotRight() {
        for (int wrong = 0; wrong < 6; wrong++) {
            SoleWear x = imaged();
            for (int i = 0; i < 6; i++) x.tell((i % 2 == 0 ? 500 - 3 * (i / 2 + 1) : 0) + (i >= wrong ? 1 : 0));
            due("check(3)", x.check(3), 1 + wrong);
        }
    }

    /** An image is kept so many hours ahead of the last one. */
    private static SoleWear imagedAhead(int hours) {
        SoleWear x = Edges.ring();
        for (int i = 0; i < 99; i++) x.hours(100);
        x.hours(99 - hours);
        x.dancer(0, 0, 500, 3);
        x.keep();
        return x;
    }

    static void promise42FewerHoursIfItWouldBeAbove9999() {
        SoleWear x = imagedAhead(1);
        due("the hour", x.count(1), 9998);
        tellRight(x, 2);
        due("one hour is left", x.check(30), 0);
        tellRight(x, 2);
        due("one hour is left", x.check(1), 0);
        tellRight(x, 4);
        due("no second one", x.check(2), 3);
        SoleWear y = imagedAhead(2);
        tellRight(y, 4);
        due("two hours are left", y.check(3), 0);
        tellRight(y, 2);
        due("the second one is missing", y.check(2), 3);
    }

    static void promise42NoHoursAreLeftAt9999() {
        SoleWear x = imagedAhead(0);
        due("none told", x.check(30), 0);
        due("none told", x.check(1), 0);
        tellRight(x, 1);
        due("one too many", x.check(1), 1);
        due("bad as ever", x.check(31), BAD);
    }

    static void promise42TheImageCountsNotWhatIsNow() {
        SoleWear x = imaged();
        x.set(0, 2, 1);
        x.hours(100);
        tellRight(x, 60);
        due("check(30)", x.check(30), 0);
    }

    static void promise42AnImageOfNoDancers() {
        SoleWear x = new SoleWear();
        x.keep();
        x.tell(0);
        x.tell(0);
        due("check(1)", x.check(1), 0);
    }

    // ---- promise 43

    static void promise43NoDancersAndAll() {
        due("none", new SoleWear().keep(), 0);
        SoleWear x = new SoleWear();
        x.deal(12);
        due("all", x.keep(), 12);
    }

    static void promise43TheLastImageCounts() {
        SoleWear x = new SoleWear();
        x.keep();
        x.dancer(0, 0, 9, 0);
        due("keep()", x.keep(), 1);
        x.dancer(0, 0, 9, 0);
        due("back()", x.back(), 1);
    }

    static void promise43NothingChangesNow() {
        SoleWear x = Edges.lived();
        int[] counts = new int[7];
        for (int i = 0; i < 7; i++) counts[i] = x.count(i);
        due("keep()", x.keep(), 3);
        for (int i = 0; i < 7; i++) due("count(" + i + ")", x.count(i), counts[i]);
    }

    // ---- promise 44

    static void promise44WithoutAnImageNo() {
        Edges.refused(NO, SoleWear::new, SoleWear::back);
        Edges.refused(NO, Edges::atTheLastHour, SoleWear::back);
    }

    static void promise44AgainAndAgain() {
        SoleWear x = Edges.lived();
        for (int again = 0; again < 3; again++) {
            x.deal(12);
            x.hours(100);
            due("back()", x.back(), 2);
            due("count(0)", x.count(0), 2);
            due("the hour", x.count(1), 5);
        }
        Edges.alike(Edges::lived, SoleWear::back, y -> {
            y.back();
            y.hours(9);
            return y.back();
        });
    }

    static void promise44AnImageOfABareHouse() {
        SoleWear x = new SoleWear();
        x.keep();
        x.deal(12);
        x.watch(100);
        x.room(9, 1, 0);
        x.room(9, 0, 9);
        x.hours(50);
        for (int t = 0; t < 3; t++) Edges.text(x, new String[] {"wear 1", "fee 1", "fine 1"}[t]);
        due("back()", x.back(), 0);
        due("count(0)", x.count(0), 0);
        due("the hour", x.count(1), 0);
        due("watch", x.count(2), 0);
        due("texts", x.count(3), 0);
        due("z", x.count(6), 1);
        due("leads", x.room(9, 1, 9), 9);
        due("floor", x.room(9, 0, 1), 1);
        for (int what = 0; what <= 5; what++) due("house(" + what + ")", x.house(what), 0);
        for (int key = 0; key < 3; key++) due("why(" + key + ")", x.why(key), NONE);
    }

    static void promise44AfterAllTextsThereIsRoomAgain() {
        SoleWear x = new SoleWear();
        Edges.text(x, "fee 5");
        x.keep();
        for (int round = 0; round < 2; round++) {
            for (int t = 1; t < 14; t++) due("text", Edges.text(x, "fee 6"), t);
            due("full", Edges.text(x, "fee 7"), FULL);
            due("fee()", x.fee(), 6);
            x.back();
            due("fee() again", x.fee(), 5);
            due("textTold(1, 0)", x.textTold(1, 0), BAD);
        }
    }

    static void promise44OfATextToldAgainNothingIsLeft() {
        SoleWear x = new SoleWear();
        x.keep();
        Edges.text(x, "fee !(1+2*3)");
        due("fee()", x.fee(), 0);
        x.back();
        due("text", Edges.text(x, "fee 5"), 0);
        due("fee()", x.fee(), 5);
        due("textTold(0, 1)", x.textTold(0, 1), 1);
        x.back();
        Edges.text(x, "fine !1");
        x.back();
        Edges.text(x, "fee 5");
        due("fee()", x.fee(), 5);
        due("why(2)", x.why(2), NONE);
    }

    static void promise44SheetsSlotsNumbersAndTheTapeStay() {
        SoleWear x = new SoleWear();
        x.keep();
        Edges.row(x, 0, 0, 4);
        x.lay(1, 3, 9);
        x.tell(0);
        Edges.tape(x, "fee 3");
        due("back()", x.back(), 0);
        due("the number that waits", x.count(4), 1);
        due("the tape", x.count(5), 5);
        due("the slot", x.rest(1, 5), 4);
        due("the sheet", x.reads(0), 0);
        due("the tape", x.text(), 0);
        x.sheet(0, -1, 0);
        x.lay(1, 0, 0);
        due("check", x.check(1), 2);
        due("back()", x.back(), 0);
        due("no sheet", x.reads(0), NOTHING);
        due("no slot", x.rest(1, 5), NOTHING);
    }

    // ---- promise 45

    static void promise45WhatIsFrom0To6() {
        Edges.range(0, 6, (x, v) -> x.count(v));
        due("dancers", Edges.crowded().count(0), 12);
        due("z", Edges.lived().count(6), 77);
    }

    static void promise45TheMostOfEach() {
        SoleWear x = Edges.atTheLastHour();
        x.deal(12);
        x.watch(100);
        for (int t = 0; t < 14; t++) Edges.text(x, "fee 1");
        for (int n = 0; n < 61; n++) x.tell(0);
        for (int n = 0; n < 9; n++) x.feed(0, 0, 0);
        x.seed(MOST);
        int[] most = {12, 9999, 100, 14, 60, 96, MOST};
        for (int what = 0; what <= 6; what++) due("count(" + what + ")", x.count(what), most[what]);
    }
}
