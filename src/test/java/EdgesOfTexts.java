/** The edges that the document names of the tape and of texts: promises 27 to 31. */
final class EdgesOfTexts {
    private static final int BAD = Edges.BAD, FULL = Edges.FULL, NONE = Edges.NONE, LEAST = Edges.LEAST, MOST = Edges.MOST;

    private EdgesOfTexts() { }

    private static void due(String call, int got, int want) {
        Edges.due(call, got, want);
    }

    private static SoleWear fed(int bytes) {
        SoleWear x = Edges.lived();
        Edges.tape(x, " ".repeat(bytes));
        return x;
    }

    /** The tape is no text; its fault is at this place. The tape is used up, else nothing is otherwise. */
    private static void fault(int place, String bytes) {
        due("text of \"" + bytes + "\"", Edges.text(new SoleWear(), bytes), -100 - place);
        Edges.alike(Edges::lived, x -> Edges.text(x, bytes), x -> x.trim(0));
    }

    private static void isText(String bytes) {
        SoleWear x = new SoleWear();
        due("text of \"" + bytes + "\"", Edges.text(x, bytes), 0);
        due("the tape is used up", x.count(5), 0);
    }

    /** What the text gives for a dancer with a sole of 7. */
    private static void gives(int want, String bytes) {
        SoleWear x = new SoleWear();
        x.dancer(0, 0, 7, 0);
        due("text of \"fine " + bytes + "\"", Edges.text(x, "fine " + bytes), 0);
        due("what \"fine " + bytes + "\" gives", x.fine(0), want);
    }

    // ---- promise 27

    static void promise27TheTapeHas96BytesAtMost() {
        SoleWear x = new SoleWear();
        for (int n = 12; n <= 96; n += 12) due("feed", x.feed(1, 2, 3), n);
        due("feed", x.feed(1, 2, 3), FULL);
        due("bytes", x.count(5), 96);
    }

    static void promise27TwelveMoreMustFit() {
        due("feed behind 84", fed(84).feed(0, 0, 0), 96);
        for (int n : new int[] {85, 90, 95, 96}) Edges.refused(FULL, () -> fed(n), x -> x.feed(0, 0, 0));
    }

    static void promise27AFullTapeIsKeptAsItWas() {
        SoleWear x = new SoleWear();
        Edges.tape(x, "fine " + "1+".repeat(45) + "1");
        due("bytes", x.count(5), 96);
        due("feed", x.feed(MOST, LEAST, -1), FULL);
        due("text", x.text(), 0);
        due("numbers and names", x.textTold(0, 1), 46);
    }

    static void promise27AnyNumbersAreTaken() {
        for (int v : new int[] {LEAST, MOST, -1, 0, NONE}) due("feed", new SoleWear().feed(v, v, v), 12);
    }

    static void promise27TheHighestByteIsFirst() {
        SoleWear x = new SoleWear();
        due("feed", x.feed(0x66696e65, 0x20312b32, 0x2a332020), 12);
        due("text", x.text(), 0);
        due("numbers and names", x.textTold(0, 1), 3);
        x.dancer(0, 0, 0, 0);
        due("fine 1+2*3", x.fine(0), 7);
    }

    // ---- promise 28

    static void promise28NIsFrom0ToTheBytes() {
        Edges.range(0, 10, (x, v) -> x.trim(v));
        Edges.range(0, 96, () -> fed(96), (x, v) -> x.trim(v));
        due("trim(96)", fed(96).trim(96), 96);
        due("trim(0)", fed(96).trim(0), 0);
    }

    static void promise28AnEmptyTapeTakes0Alone() {
        Edges.range(0, 0, () -> fed(0), (x, v) -> x.trim(v));
        due("trim(0)", new SoleWear().trim(0), 0);
        due("trim(1)", new SoleWear().trim(1), BAD);
    }

    static void promise28WhatIsCutOffIsGone() {
        SoleWear x = new SoleWear();
        Edges.tape(x, "fine 1234");
        due("trim(8)", x.trim(8), 8);
        due("trim(9)", x.trim(9), BAD);
        due("text", x.text(), 0);
        x.dancer(0, 0, 0, 0);
        due("fine(0)", x.fine(0), 123);
    }

    // ---- promise 29: how many, and what becomes of the tape

    static void promise29NumbersBeginAt0() {
        SoleWear x = new SoleWear();
        due("text", Edges.text(x, "fee s"), 0);
        due("text", Edges.text(x, "fee s"), 1);
        due("count(3)", x.count(3), 2);
    }

    private static SoleWear withAllTexts() {
        SoleWear x = Edges.lived();
        for (int t = 4; t < 14; t++) Edges.text(x, "wear f+" + t);
        return x;
    }

    static void promise29TheFourteenthIsTakenTheFifteenthIsFull() {
        SoleWear x = new SoleWear();
        for (int t = 0; t < 14; t++) due("text", Edges.text(x, "fee " + t), t);
        due("the fifteenth", Edges.text(x, "fee 77"), FULL);
        due("count(3)", x.count(3), 14);
        due("why(1)", x.why(1), 13);
        due("fee()", x.fee(), 13);
    }

    static void promise29FullChangesNothingButTheTape() {
        due("full", Edges.text(withAllTexts(), "wear 9"), FULL);
        Edges.alike(EdgesOfTexts::withAllTexts, x -> Edges.text(x, "wear 9"), x -> x.trim(0));
    }

    static void promise29AFaultStandsAheadOfFull() {
        due("a fault", Edges.text(withAllTexts(), "wear"), -104);
        due("an empty tape", Edges.text(withAllTexts(), ""), -100);
        Edges.alike(EdgesOfTexts::withAllTexts, x -> Edges.text(x, "wear"), x -> x.trim(0));
    }

    static void promise29TheTapeIsUsedUpWhateverIsAnswered() {
        String[] tapes = {"wear f", "wear", "nothing", ""};
        for (String t : tapes) {
            SoleWear x = Edges.lived();
            Edges.text(x, t);
            due("bytes behind \"" + t + "\"", x.count(5), 0);
            due("text()", x.text(), -100);
        }
        SoleWear x = withAllTexts();
        Edges.text(x, "wear f");
        due("bytes behind FULL", x.count(5), 0);
    }

    // ---- promise 29: where a fault is

    static void promise29TheEndOfAnEmptyTape() {
        fault(0, "");
    }

    static void promise29TheEndIsBehindTheLastByteABlankAsWell() {
        fault(1, " ");
        fault(96, " ".repeat(96));
        fault(4, "wear");
        fault(5, "wear ");
        fault(96, "wear" + " ".repeat(92));
        fault(7, "fine 1+");
        fault(9, "fine 1+  ");
        fault(6, "fine (");
        fault(7, "fine (1");
        fault(6, "fine !");
    }

    static void promise29TheEndOfAFullTape() {
        fault(96, "fine " + "1+".repeat(45) + " ");
        fault(96, "fine " + "1+".repeat(42) + "((((((1");
        fault(95, "fine " + "1+".repeat(45) + ")");
        isText("fine " + "1+".repeat(45) + "9");
        isText("fine " + " ".repeat(90) + "9");
        isText("fine 9" + " ".repeat(90));
    }

    static void promise29ANumberHas1To4Digits() {
        gives(0, "0");
        gives(9, "9");
        gives(9999, "9999");
        gives(7, "0007");
        fault(5, "fine 10000");
        fault(5, "fine 00000");
        fault(5, "fine 12345678901234567890");
        fault(7, "fine 1+00001");
    }

    static void promise29TheNinthOpenBracketIsAFault() {
        gives(7, "((((((((s))))))))");
        fault(13, "fine (((((((((s)))))))))");
        gives(14, "((((((((s))))))))+((((((((s))))))))");
        gives(15, "(1+(1+(1+(1+(1+(1+(1+(1+s))))))))");
        fault(29, "fine (1+(1+(1+(1+(1+(1+(1+(1+(s)))))))))");
        gives(10, "(1)+(1)+(1)+(1)+(1)+(1)+(1)+(1)+(1)+(1)");
        fault(17, "fine (1)+(((((((((s");
    }

    static void promise29TheNinthOpenNotIsAFault() {
        gives(1, "!!!!!!!!s");
        fault(13, "fine !!!!!!!!!s");
        gives(2, "!!!!!!!!s+!!!!!!!!s");
        gives(9, "!0+!0+!0+!0+!0+!0+!0+!0+!0");
        fault(14, "fine !!!!!!!!(!s)");
        gives(1, "!!!!(!!!!s)");
        fault(14, "fine !!!!(!!!!!s)");
        gives(0, "(!!!!!!!!s)*!!!!!!!!0");
    }

    static void promise29BracketsAndNotsAreCountedEachByItself() {
        gives(1, "!!!!!!!!((((((((s))))))))");
        gives(1, "!(!(!(!(!(!(!(!(s))))))))");
        fault(21, "fine !!!!!!!!(((((((((s");
        fault(21, "fine ((((((((!!!!!!!!!s");
        fault(21, "fine !(!(!(!(!(!(!(!(!(s");
        fault(21, "fine (!(!(!(!(!(!(!(!(s");
    }

    static void promise29ATestHasOneComparisonAtMost() {
        gives(1, "1<2");
        fault(8, "fine 1<2<3");
        fault(8, "fine 1<2=1");
        fault(8, "fine 1=2>1");
        gives(1, "(1<2)<3");
        gives(1, "0<1&1<2&2<3");
        gives(1, "3<1|1<2|2<1");
        fault(9, "fine (1<2>0)");
    }

    static void promise29SignsStandBetweenPieces() {
        fault(5, "fine -1");
        fault(5, "fine +1");
        fault(5, "fine <1");
        fault(7, "fine 1+*2");
        fault(7, "fine 1<=2");
        fault(7, "fine 1&&2");
        fault(7, "fine 1||2");
        fault(6, "fine 1!");
        fault(6, "fine 1(2)");
        fault(8, "fine (1)2");
        fault(8, "fine (1)(2)");
        fault(6, "fine ()");
        fault(5, "fine )");
        fault(6, "fine 1)");
        fault(8, "fine (1))");
        fault(6, "fine !)1");
        gives(2, "1+!0");
        gives(-1, "0-!0");
    }

    static void promise29BehindAWholeTextNoWordFollows() {
        fault(7, "fine s s");
        fault(7, "fine s d ");
        fault(7, "fine 1 s");
        fault(7, "fine s 1");
        fault(7, "fine 1 1");
        fault(9, "fine (1) s");
        fault(7, "fine s wear s");
        fault(7, "fine s 12345");
    }

    static void promise29AWordRightBehindAWordNeedsABlank() {
        fault(4, "wear1");
        fault(3, "fee1");
        fault(4, "fine0");
        fault(0, "wearf");
        fault(0, "fees");
        fault(6, "fine s1");
        fault(6, "fine 1s");
        fault(7, "fine s 1");
        fault(7, "fine 1 2");
        fault(9, "fine 1 +2s");
    }

    static void promise29BesideASignNoBlankIsNeeded() {
        isText("wear(f)");
        isText("fee!s");
        isText("fine(s)+1");
        isText("fine  s  +  1  ");
        isText("   fine s");
        isText("fine s   ");
    }

    static void promise29TheByte32AloneIsABlank() {
        for (char c : new char[] {0, 1, 9, 10, 13, 31, 127, 128, 160, 255}) {
            fault(0, c + "fine s");
            fault(4, "fine" + c + "s");
            fault(6, "fine s" + c);
            fault(7, "fine s " + c);
        }
    }

    static void promise29LettersAreFromAToZDigitsFrom0To9() {
        fault(0, "`");
        fault(0, "{");
        fault(0, "a");
        fault(0, "z");
        fault(0, "Fine s");
        fault(0, "FEE s");
        fault(5, "fine S");
        // The bytes right beside digits are signs of their own: / ahead of 0, : behind 9.
        gives(0, "0/9");
        fault(6, "fine 9:1");
        fault(6, "fine s`s");
        fault(6, "fine s{s");
        fault(6, "fine s@s");
        fault(6, "fine sZ");
        // Between a sign and a word no blank is missing; of a word as long as it goes its first byte is the fault.
        fault(5, "fine za");
        fault(5, "fine az");
        fault(5, "fine sa");
        fault(5, "fine sz");
        fault(6, "fine 0a");
        fault(6, "fine 9z");
        fault(6, "fine s0");
        fault(6, "fine s9");
    }

    static void promise29AKeyIsOneOfThree() {
        isText("wear 1");
        isText("fee 1");
        isText("fine 1");
        fault(0, "wea 1");
        fault(0, "wears 1");
        fault(0, "fe 1");
        fault(0, "fees 1");
        fault(0, "fin 1");
        fault(0, "fines 1");
        fault(0, "1");
        fault(0, "(fee 1)");
        fault(2, "  feed 1");
        fault(5, "wear fee 1");
    }

    static void promise29NamesAreThoseOfTheKeyAlone() {
        for (char c = 'a'; c <= 'z'; c++) {
            if ("fsd".indexOf(c) >= 0) isText("wear " + c);
            else fault(5, "wear " + c);
            if ("sl".indexOf(c) >= 0) isText("fee " + c);
            else fault(4, "fee " + c);
            if ("sd".indexOf(c) >= 0) isText("fine " + c);
            else fault(5, "fine " + c);
        }
    }

    static void promise29ANameHasOneLetter() {
        fault(5, "wear ff");
        fault(5, "fine sd");
        fault(4, "fee sl");
        fault(7, "fee (s*ll)");
    }

    static void promise29TheFirstFaultIsToldOfSeveral() {
        fault(5, "fine x+y+12345");
        fault(7, "fine 1+12345+x");
        fault(6, "fine s#!!!!!!!!!!");
    }

    // ---- promise 29: what a text gives

    static void promise29IntsWrap() {
        gives(LEAST, "8192*8192*32");
        gives(MOST, "8192*8192*32-1");
        gives(LEAST, "(8192*8192*32-1)+1");
        gives(0, "8192*8192*64");
        gives(9999 * 9999 * 9999, "9999*9999*9999");
    }

    static void promise29ADivisionBy0Is0() {
        gives(0, "5/0");
        gives(0, "0/0");
        gives(0, "(0-5)/0");
        gives(3, "5/0+3");
        gives(0, "s/d");
    }

    static void promise29ADivisionCutsTowards0() {
        gives(3, "7/2");
        gives(-3, "(0-7)/2");
        gives(-3, "7/(0-2)");
        gives(3, "(0-7)/(0-2)");
        gives(0, "(0-1)/2");
    }

    static void promise29TheLeastByMinus1Wraps() {
        gives(LEAST, "(8192*8192*32)/(0-1)");
    }

    static void promise29TestsAtTheirEdges() {
        gives(0, "6>s");
        gives(0, "7>s");
        gives(1, "8>s");
        gives(1, "6<s");
        gives(0, "7<s");
        gives(0, "8<s");
        gives(0, "6=s");
        gives(1, "7=s");
        gives(0, "8=s");
        gives(1, "8192*8192*32<0");
        gives(1, "8192*8192*32<8192*8192*32-1");
        gives(0, "8192*8192*32>8192*8192*32-1");
    }

    static void promise29WhatIsNot0IsTrue() {
        gives(1, "2&4");
        gives(0, "2&0");
        gives(0, "0&2");
        gives(0, "0&0");
        gives(1, "2|4");
        gives(1, "2|0");
        gives(1, "0|2");
        gives(0, "0|0");
        gives(0, "!2");
        gives(1, "!0");
        gives(0, "!(0-1)");
        gives(1, "(0-1)&(0-2)");
        gives(1, "0-1|0");
    }

    static void promise29TheLoosestIsFirst() {
        gives(1, "1|1&0");
        gives(0, "(1|1)&0");
        gives(1, "1&0=0");
        gives(1, "2<1+2");
        gives(7, "1+2*3");
        gives(0, "!1*5");
        gives(4, "9-3-2");
        gives(1, "8/4/2");
        gives(6, "8/4*3");
    }

    // ---- promise 30

    static void promise30TextIsOneThatIs() {
        Edges.range(0, 3, (x, v) -> x.textTold(v, 0));
        Edges.range(0, 13, EdgesOfTexts::withAllTexts, (x, v) -> x.textTold(v, 1));
        Edges.refused(BAD, SoleWear::new, x -> x.textTold(0, 0));
    }

    static void promise30WhatIs0Or1() {
        Edges.range(0, 1, (x, v) -> x.textTold(0, v));
    }

    static void promise30KeysAreFrom0To2() {
        int[] due = {0, 1, 2, 1};
        for (int t = 0; t < 4; t++) due("textTold(" + t + ", 0)", Edges.lived().textTold(t, 0), due[t]);
    }

    static void promise30TheFewestAndTheMostNumbersAndNames() {
        SoleWear x = new SoleWear();
        Edges.text(x, "fine !!((1234))");
        due("one", x.textTold(0, 1), 1);
        Edges.text(x, "fee " + "s+".repeat(45) + "s");
        due("forty-six", x.textTold(1, 1), 46);
        Edges.text(x, "fee(1)" + "+s".repeat(45));
        due("forty-six", x.textTold(2, 1), 46);
    }

    static void promise30AFaultyTextIsNone() {
        SoleWear x = new SoleWear();
        Edges.text(x, "fee 1+1+1+");
        due("textTold(0, 0)", x.textTold(0, 0), BAD);
        Edges.text(x, "fee 1");
        due("textTold(0, 1)", x.textTold(0, 1), 1);
    }

    // ---- promise 31

    static void promise31KeyIsFrom0To2() {
        Edges.range(0, 2, (x, v) -> x.why(v));
    }

    static void promise31WithoutATextItIsNone() {
        for (int key = 0; key < 3; key++) {
            SoleWear x = new SoleWear();
            due("why(" + key + ")", x.why(key), NONE);
            Edges.text(x, new String[] {"fee 1", "fine 1", "wear 1"}[key]);
            due("why(" + key + ") with another text", x.why(key), NONE);
        }
    }

    static void promise31TheOneToldLastCounts() {
        SoleWear x = new SoleWear();
        Edges.text(x, "fee 5");
        due("why(1)", x.why(1), 0);
        Edges.text(x, "fee 6");
        due("why(1)", x.why(1), 1);
        Edges.text(x, "wear 7");
        due("why(1)", x.why(1), 1);
        due("why(0)", x.why(0), 2);
        due("fee()", x.fee(), 6);
        Edges.text(x, "fee 7+");
        due("a faulty one does not count", x.fee(), 6);
    }
}
