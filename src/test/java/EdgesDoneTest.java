/** Promises 11 to 17: each sentence that names a boundary case, by a test of its own. */
public final class EdgesDoneTest {
    public static void main(String[] args) throws IllegalAccessException {
        Story.runAll(EdgesDoneTest.class, 11, 12, 13, 14, 15, 16, 17);
    }

    // ---- 11: put

    private static void promise11SaucerFrom0To20() {
        Story.rich("put(0, 0) = 8", "put(0, 20) = 0", "put(0, -1) = BAD", "put(0, 21) = BAD", "put(0, least) = BAD",
                "put(0, most) = BAD", "of(0, 1) = 20");
    }

    private static void promise11OfAHouseThereIs() {
        Story.due("put(0, 1) = BAD", "house(1, 1) = 0", "put(0, 2) = 1", "put(1, 2) = BAD",
                "tell [5;1.1,1.1,1.1,1.1,1.1,1.1] = 6", "put(5, 2) = 1", "put(6, 2) = BAD");
        Story.rich("put(2, 1) = 11", "put(3, 1) = BAD", "put(-1, 1) = BAD", "put(least, 1) = BAD", "put(most, 1) = BAD");
    }

    private static void promise11NotIfItIsSo() {
        Story.rich("put(0, 8) = NOT", "put(0, 0) = 8", "put(0, 0) = NOT", "put(0, 20) = 0", "put(0, 20) = NOT", "count(8) = 8");
    }

    private static void promise11BadAheadOfNot() {
        Story.due("put(0, 0) = BAD", "house(1, 1) = 0", "put(1, 1) = BAD", "put(0, 1) = NOT");
    }

    private static void promise11FromNowOn() {
        Story.due("tell [0;50.5;p9] = 1", "put(0, 7) = 5", "nights(1) = 0", "count(4) = 7", "nights(1) = 0", "count(4) = 14",
                "of(0, 1) = 7");
    }

    private static void promise11OfALostHouseToo() {
        Story.due("tell [0;50.5!!!] = 1", "put(0, 7) = 5", "of(0, 1) = 7", "count(8) = 1");
    }

    private static void promise11InWinterToo() {
        Story.due("nights(15) = 0", "house(1, 5) = 0", "put(0, 7) = 5", "of(0, 1) = 7", "count(8) = 1");
    }

    // ---- 12: pay

    private static void promise12PaidFrom1To9999() {
        Story.rich("pay(0, 1) = 475", "pay(0, 0) = BAD", "pay(0, -1) = BAD", "pay(0, 10000) = BAD", "pay(0, least) = BAD",
                "pay(0, most) = BAD", "pay(0, 9999) = 0");
        Story.due("house(9999, 1) = 0", "pay(0, 9998) = 1", "house(9999, 1) = 1", "pay(1, 9999) = 0");
    }

    private static void promise12OfAHouseThereIs() {
        Story.due("pay(0, 1) = BAD", "house(5, 1) = 0", "pay(0, 1) = 4", "pay(1, 1) = BAD",
                "tell [5;1.1,1.1,1.1,1.1,1.1,1.1] = 6", "pay(5, 1) = 9", "pay(6, 1) = BAD");
        Story.rich("pay(2, 1) = 55", "pay(3, 1) = BAD", "pay(-1, 1) = BAD", "pay(least, 1) = BAD", "pay(most, 1) = BAD");
    }

    private static void promise12OwesNothingAtLeast() {
        Story.due("house(50, 1) = 0", "house(50, 1) = 1", "house(50, 1) = 2", "pay(0, 49) = 1", "pay(1, 50) = 0", "pay(2, 51) = 0",
                "of(0, 0) = 1", "of(1, 0) = 0", "of(2, 0) = 0");
    }

    private static void promise12NotIfItOwesNothing() {
        Story.rich("pay(2, 55) = 1", "pay(2, 1) = 0", "pay(2, 1) = NOT", "pay(2, 9999) = NOT", "count(8) = 8");
        Story.due("house(0, 1) = 0", "pay(0, 1) = NOT", "count(8) = 0");
    }

    private static void promise12BadAheadOfNot() {
        Story.due("house(0, 1) = 0", "pay(0, 0) = BAD", "pay(0, 10000) = BAD", "pay(1, 1) = BAD", "pay(0, 1) = NOT");
    }

    private static void promise12IsNotEaten() {
        Story.due("house(50, 1) = 0", "pay(0, 30) = 20", "count(4) = 0", "count(6) = 20");
    }

    private static void promise12ALostHouseStaysLost() {
        Story.due("tell [0;50.5!!!] = 1", "pay(0, 500) = 0", "of(0, 2) = 3", "of(0, 3) = 1", "pay(0, 1) = NOT");
    }

    // ---- 13: drive

    private static void promise13AHogThereIs() {
        Story.due("drive(0, 0) = BAD", "house(1, 1) = 0", "house(1, 1) = 1", "drive(0, 0) = BAD", "hog(0, 1, 0) = 0",
                "drive(0, 1) = 0", "drive(1, 1) = BAD", "tell [5;1.1,1.1;p1,p1,p1,p1,p1] = 2", "drive(4, 1) = 0",
                "drive(5, 1) = BAD");
        Story.rich("drive(1, 0) = 2", "drive(2, 0) = BAD", "drive(-1, 0) = BAD", "drive(least, 0) = BAD", "drive(most, 0) = BAD");
    }

    private static void promise13ToAHouseThereIs() {
        Story.rich("drive(0, 0) = 1", "drive(0, 2) = 0", "drive(0, 3) = BAD", "drive(0, -1) = BAD", "drive(0, least) = BAD",
                "drive(0, most) = BAD", "at(0, 2) = 2");
        Story.due("tell [5;1.1,1.1,1.1,1.1,1.1,1.1;p1] = 6", "drive(0, 5) = 0", "drive(0, 6) = BAD", "at(0, 2) = 5");
    }

    private static void promise13NotIfItIsThere() {
        Story.rich("drive(0, 1) = NOT", "drive(1, 2) = NOT", "drive(1, 1) = 2", "drive(1, 1) = NOT", "count(8) = 8");
    }

    private static void promise13BadAheadOfNot() {
        Story.due("tell [5;1.1;p1] = 1", "drive(1, 0) = BAD", "drive(0, 1) = BAD", "drive(0, 0) = NOT");
    }

    private static void promise13ToALostHouseAndToOthers() {
        Story.due("tell [5;1.1,1.1!!!;s1,p1@1] = 2", "drive(0, 1) = 0", "of(1, 4) = 3", "of(0, 4) = 0", "count(8) = 1");
    }

    // ---- 14: forgive

    private static void promise14OfAHouseThereIs() {
        Story.due("forgive(0) = BAD", "tell [5;1.1!] = 1", "forgive(1) = BAD", "forgive(0) = 1",
                "tell [5;1.1,1.1,1.1,1.1,1.1,1.1!] = 6", "forgive(5) = 1", "forgive(6) = BAD");
        Story.rich("forgive(3) = BAD", "forgive(-1) = BAD", "forgive(least) = BAD", "forgive(most) = BAD");
    }

    private static void promise14NotIfThereAreNone() {
        Story.rich("forgive(0) = NOT", "forgive(1) = NOT", "count(8) = 7");
        Story.due("tell [5;1.1!] = 1", "forgive(0) = 1", "forgive(0) = NOT", "count(8) = 1");
    }

    private static void promise14From1To3Looks() {
        Story.due("tell [5;1.1!,1.1!!,1.1!!!] = 3", "forgive(0) = 1", "forgive(1) = 2", "forgive(2) = 3", "of(0, 2) = 0",
                "of(1, 2) = 0", "of(2, 2) = 0", "count(8) = 3");
    }

    private static void promise14NotLostAnyMore() {
        Story.due("tell [10;50.9!!!;p5] = 1", "nights(1) = 1", "of(0, 0) = 500", "forgive(0) = 3", "of(0, 3) = 0", "count(5) = 0",
                "of(0, 0) = 500", "nights(1) = 0", "of(0, 0) = 544", "count(4) = 5");
    }

    private static void promise14ThreeLooksMoreAndItIsLostAgain() {
        Story.due("tell [0;50.0!!!;p5] = 1", "forgive(0) = 3", "nights(2) = 0", "of(0, 2) = 2", "nights(1) = 1", "of(0, 2) = 3");
    }

    // ---- 15: drift

    private static void promise15From1To40Nights() {
        Story.rich("drift(0) = BAD", "drift(-1) = BAD", "drift(41) = BAD", "drift(least) = BAD", "drift(most) = BAD",
                "seed(1) = 1103527590", "count(2) = 3");
        Story.due("drift(1) = 0", "count(2) = 1", "drift(40) = 0", "count(2) = 41", "count(8) = 8");
    }

    private static void promise15AboveNight9999IsFull() {
        Story.due("tell [0;9.1;p1] = 1", "249 times nights(40) = 0", "drift(40) = FULL", "seed(1) = 1", "drift(39) = 0",
                "count(2) = 9999", "seed(5) = 429995104", "drift(1) = FULL", "drift(40) = FULL", "seed(1) = 5", "undo() = 7",
                "drift(2) = FULL", "drift(1) = 0", "count(2) = 9999");
    }

    private static void promise15BadAheadOfFull() {
        Story.due("tell [0;9.1;p1] = 1", "249 times nights(40) = 0", "nights(39) = 0", "drift(0) = BAD", "drift(41) = BAD",
                "drift(1) = FULL");
    }

    private static void promise15EachNightWithItsSaucerIsOne() {
        Story.due("tell [0;9.1] = 1", "drift(2) = 0", "count(8) = 2", "seed(377401575) = 377401575", "of(0, 1) = 7", "undo() = 1",
                "of(0, 1) = 11", "count(2) = 1", "undo() = 0", "of(0, 1) = 1", "count(2) = 0", "seed(1) = 1", "undo() = NONE");
    }

    private static void promise15ASaucerThatIsSoIsOneToo() {
        Story.due("tell [0;9.11] = 1", "drift(1) = 0", "of(0, 1) = 11", "count(8) = 1");
    }

    private static void promise15TheSaucerIsDrawnAheadOfTheNight() {
        Story.due("tell [0;90.1;p9] = 1", "drift(1) = 0", "of(0, 1) = 11", "count(4) = 9", "tell [0;90.20;p9] = 1", "seed(20) = 1103527590",
                "drift(1) = 0", "of(0, 1) = 0", "count(4) = 0", "of(0, 2) = 1");
    }

    private static void promise15SaucersFrom0To20() {
        Story.due("tell [0;9.1] = 1", "seed(20) = 1", "drift(1) = 0", "of(0, 1) = 0", "seed(8) = 595480765", "drift(1) = 0",
                "of(0, 1) = 20", "seed(9) = 238199713", "drift(1) = 0", "of(0, 1) = 19");
    }

    private static void promise15HousesFromFirstToLast() {
        Story.due("tell [0;9.1,9.1,9.1,9.1,9.1,9.1] = 6", "seed(31) = 1", "drift(1) = 0", "of(5, 1) = 3", "of(0, 1) = 1",
                "seed(0) = 1996730220", "drift(1) = 0", "of(0, 1) = 12", "of(5, 1) = 3", "tell [0;9.1,9.1] = 2",
                "seed(31) = 12345", "drift(1) = 0", "of(0, 1) = 1", "of(1, 1) = 3");
    }

    /** Draws just above a multiple of 65536 and just below one, then of 128. */
    private static void promise15WhatIsDividedIsCut() {
        Story.due("tell [0;9.1,9.1] = 2", "seed(427) = 1", "drift(1) = 0", "of(0, 1) = 1", "of(1, 1) = 17", "seed(3466) = 902103048",
                "drift(1) = 0", "of(0, 1) = 1", "of(1, 1) = 4", "tell [0;9.1] = 1", "seed(286) = 115474427", "drift(1) = 0", "of(0, 1) = 20",
                "seed(387) = 2072759807", "drift(1) = 0", "of(0, 1) = 0", "seed(1) = 1858649856");
    }

    private static void promise15OfNoneIfThereAreNone() {
        Story.due("drift(1) = 0", "seed(1103527590) = 1103527590", "count(2) = 1", "drift(1) = 0", "seed(0) = 377401575",
                "count(8) = 2", "undo() = 1", "seed(0) = 1103527590");
    }

    private static void promise15TheDrawHas31Bits() {
        Story.due("seed(most) = 1", "drift(1) = 0", "seed(0) = 1043980748", "drift(1) = 0", "seed(0) = 12345", "drift(40) = 0",
                "seed(0) = 1387182456");
    }

    private static void promise15InWinterASaucerIsDrawnToo() {
        Story.due("nights(15) = 0", "house(90, 1) = 0", "hog(0, 9, 0) = 0", "drift(1) = 0", "of(0, 1) = 11", "count(4) = 0",
                "count(2) = 16", "undo() = 0", "of(0, 1) = 1");
    }

    private static void promise15AnswersWhichAreLost() {
        Story.due("tell [0;9.1!!!,9.1,9.1!!!] = 3", "drift(1) = 0b101", "of(2, 1) = 11", "tell [0;9.9!!;p9] = 1",
                "seed(20) = 1103527590", "drift(1) = 1");
    }

    // ---- 16: undo

    private static void promise16NoneIsKnown() {
        Story.due("undo() = NONE", "house(1, 1) = 0", "undo() = NONE", "put(0, 2) = 1", "undo() = 0", "undo() = NONE");
        Story.rich("undo() = 6", "undo() = 5", "undo() = 4", "undo() = 3", "undo() = 2", "undo() = 1", "undo() = 0", "undo() = NONE",
                "count(2) = 0", "of(0, 1) = 6");
    }

    private static void promise16EightAreKnownOlderOnesLost() {
        Story.due("house(1, 1) = 0", "put(0, 2) = 1", "put(0, 3) = 2", "put(0, 4) = 3", "put(0, 5) = 4", "put(0, 6) = 5",
                "put(0, 7) = 6", "put(0, 8) = 7", "count(8) = 7", "put(0, 9) = 8", "count(8) = 8", "put(0, 10) = 9", "count(8) = 8",
                "put(0, 11) = 10", "count(8) = 8", "undo() = 7", "of(0, 1) = 10", "undo() = 6", "of(0, 1) = 9", "undo() = 5",
                "undo() = 4", "undo() = 3", "undo() = 2", "undo() = 1", "of(0, 1) = 4", "undo() = 0", "of(0, 1) = 3", "undo() = NONE",
                "of(0, 1) = 3");
    }

    private static void promise16JustEightAreAllKnown() {
        Story.due("house(1, 1) = 0", "nights(8) = 0", "count(8) = 8", "7 times nights(1) = 0", "undo() = 7", "undo() = 6", "undo() = 5",
                "undo() = 4", "undo() = 3", "undo() = 2", "undo() = 1", "undo() = 0", "count(2) = 7", "undo() = NONE");
    }

    private static void promise16NightsOfOneCallFillIt() {
        Story.due("put(0, 0) = BAD", "house(1, 1) = 0", "put(0, 2) = 1", "nights(7) = 0", "count(8) = 8", "undo() = 7", "nights(9) = 0",
                "count(8) = 8", "undo() = 7", "undo() = 6", "undo() = 5", "undo() = 4", "undo() = 3", "undo() = 2", "undo() = 1",
                "undo() = 0", "count(2) = 7", "of(0, 1) = 2");
    }

    private static void promise16ANightIsAsItHadNotBeen() {
        Story.due("tell [20;50.3!!,50.9,9.9;p5,g3@1,s2@2] = 3", "nights(1) = 1", "of(0, 0) = 497", "of(0, 2) = 3", "at(0, 2) = 1",
                "at(2, 2) = 1", "count(2) = 1", "count(4) = 8", "undo() = 0", "of(0, 0) = 500", "of(0, 2) = 2", "of(0, 3) = 0",
                "of(1, 0) = 500", "of(2, 0) = 90", "at(0, 2) = 0", "at(1, 2) = 1", "at(2, 2) = 2", "count(2) = 0", "count(4) = 0",
                "count(5) = 0");
    }

    private static void promise16ASaucerToldIsAsItHadNotBeen() {
        Story.due("house(1, 20) = 0", "put(0, 0) = 20", "undo() = 0", "of(0, 1) = 20");
    }

    private static void promise16PaidIsAsItHadNotBeen() {
        Story.due("house(9999, 1) = 0", "pay(0, 9999) = 0", "undo() = 0", "of(0, 0) = 9999");
    }

    private static void promise16DrivenIsAsItHadNotBeen() {
        Story.due("tell [0;1.1,1.1;p1@1] = 2", "drive(0, 0) = 1", "undo() = 0", "at(0, 2) = 1", "of(1, 4) = 1", "of(0, 4) = 0");
    }

    private static void promise16ForgivenIsAsItHadNotBeen() {
        Story.due("tell [0;1.1!!!,1.1!] = 2", "forgive(0) = 3", "forgive(1) = 1", "undo() = 1", "of(1, 2) = 1", "undo() = 0",
                "of(0, 2) = 3", "of(0, 3) = 1", "count(5) = 1");
    }

    private static void promise16ADriftsNightIsAsItHadNotBeen() {
        Story.due("tell [0;90.1;p9] = 1", "drift(1) = 0", "undo() = 0", "of(0, 1) = 1", "of(0, 0) = 900", "count(2) = 0", "count(4) = 0",
                "seed(1) = 1");
    }

    private static void promise16TheDrawIsAsAheadOfItWhateverWasToldSince() {
        Story.due("house(1, 1) = 0", "seed(5) = 1", "put(0, 2) = 1", "seed(9) = 5", "undo() = 0", "seed(1) = 5");
        Story.due("house(1, 1) = 0", "drift(1) = 0", "seed(most) = 1103527590", "seed(0) = most", "undo() = 0", "seed(1) = 1");
    }

    private static void promise16InterestIsNotUndone() {
        Story.due("house(100, 1) = 0", "nights(1) = 0", "interest(20) = 5", "undo() = 0", "count(3) = 20", "of(0, 0) = 100",
                "nights(1) = 0", "of(0, 0) = 120");
    }

    private static void promise16InterestTheDrawTheImageAreNothingToBeUndone() {
        Story.due("house(1, 1) = 0", "interest(6) = 5", "seed(7) = 1", "image() = 1", "sheet(0, 0, 1) = 1", "item(0, 0, 0, 1) = 1",
                "type('x') = 1", "read() = -20", "undo() = NONE", "count(8) = 0");
    }

    private static void promise16WhatIsRefusedIsNothingToBeUndone() {
        Story.due("tell [5;0.1;p1] = 1", "put(0, 1) = NOT", "pay(0, 1) = NOT", "drive(0, 0) = NOT", "forgive(0) = NOT", "nights(41) = BAD",
                "drift(0) = BAD", "undo() = NONE", "count(8) = 0");
    }

    private static void promise16NewThingsComeInPlaceOfTheUndoneOnes() {
        Story.due("house(1, 1) = 0", "put(0, 2) = 1", "put(0, 3) = 2", "undo() = 1", "put(0, 4) = 2", "count(8) = 2", "undo() = 1",
                "of(0, 1) = 2", "undo() = 0", "of(0, 1) = 1", "undo() = NONE");
    }

    private static void promise16LeavesTheTapeTheSheetsTheImage() {
        Story.rich("undo() = 6", "undo() = 5", "type('.') = 4", "drop(0) = 3", "drop(1) = 2", "restore() = 1", "count(8) = 1",
                "count(2) = 0");
    }

    // ---- 17: seed

    private static void promise17From0To31Bits() {
        Story.rich("seed(-1) = BAD", "seed(least) = BAD", "seed(0) = 1103527590", "seed(most) = 0", "seed(-1) = BAD", "seed(1) = most");
    }

    private static void promise17WhatItIsAlreadyIsTaken() {
        Story.due("seed(1) = 1", "seed(1) = 1", "seed(0) = 1", "seed(0) = 0");
    }

    private static void promise17IsNothingToBeUndone() {
        Story.due("house(1, 1) = 0", "seed(5) = 1", "count(8) = 0", "undo() = NONE", "seed(1) = 5");
    }
}
