/** Promises 1 to 7 and 9: each sentence that names a boundary case, by a test of its own. */
public final class EdgesHousesTest {
    public static void main(String[] args) throws IllegalAccessException {
        Story.runAll(EdgesHousesTest.class, 1, 2, 3, 4, 5, 6, 7, 9);
    }

    // ---- 1: a lane, nobody

    private static void promise1NobodyIsThere() {
        Story.due("count(0) = 0", "count(1) = 0", "of(0, 0) = BAD", "at(0, 0) = BAD", "count(5) = 0", "count(6) = 0");
    }

    private static void promise1InterestIs5AtFirst() {
        Story.due("count(3) = 5", "interest(5) = 5");
    }

    private static void promise1NightIs0AtFirst() {
        Story.due("count(2) = 0", "count(7) = 0");
    }

    private static void promise1EatenInAllIs0AtFirst() {
        Story.due("count(4) = 0", "then(0, 1) = 0");
    }

    private static void promise1TheDrawIs1AtFirst() {
        Story.due("seed(2) = 1");
    }

    private static void promise1NothingIsToBeUndone() {
        Story.due("count(8) = 0", "undo() = NONE");
    }

    private static void promise1ThereIsNoImage() {
        Story.due("restore() = NONE");
    }

    private static void promise1TheTapeIsEmpty() {
        Story.due("read() = -20", "type(' ') = 1");
    }

    private static void promise1SheetsHoldNothingAtFirst() {
        Story.due("drop(0) = NULL", "drop(1) = NULL", "drop(2) = NULL", "drop(3) = NULL", "item(0, 0, 0, 1) = NULL",
                "item(3, 3, 0, 1) = NULL", "copy(0, 0, 1, 0, 0) = NULL");
    }

    private static void promise1NightsGoByWithNobody() {
        Story.due("nights(40) = 0", "count(2) = 40", "count(4) = 0", "count(8) = 8", "then(60, 0) = 0", "then(60, 1) = 0");
    }

    // ---- 2: house

    private static void promise2OwesFrom0To9999() {
        Story.due("house(0, 5) = 0", "house(9999, 5) = 1", "house(-1, 5) = BAD", "house(10000, 5) = BAD",
                "house(least, 5) = BAD", "house(most, 5) = BAD", "count(0) = 2", "of(0, 0) = 0", "of(1, 0) = 9999");
    }

    private static void promise2SaucerFrom0To20() {
        Story.due("house(7, 0) = 0", "house(7, 20) = 1", "house(7, -1) = BAD", "house(7, 21) = BAD",
                "house(7, least) = BAD", "house(7, most) = BAD", "count(0) = 2", "of(0, 1) = 0", "of(1, 1) = 20");
    }

    private static void promise2HousesAre0To5() {
        Story.due("house(10, 1) = 0", "house(11, 2) = 1", "house(12, 3) = 2", "house(13, 4) = 3", "house(14, 5) = 4",
                "house(15, 6) = 5", "house(16, 7) = FULL", "house(0, 0) = FULL", "house(9999, 20) = FULL", "count(0) = 6",
                "of(5, 0) = 15", "of(5, 1) = 6", "of(6, 0) = BAD");
    }

    private static void promise2FullBehindALaneOfSix() {
        Story.due("tell [5;1.1,1.1,1.1,1.1,1.1] = 5", "house(7, 7) = 5", "house(7, 7) = FULL",
                "tell [5;1.1,1.1,1.1,1.1,1.1,1.1] = 6", "house(7, 7) = FULL", "tell [5;1.1] = 1", "house(7, 7) = 1");
    }

    private static void promise2BadAheadOfFull() {
        Story.due("tell [5;1.1,1.1,1.1,1.1,1.1,1.1] = 6", "house(-1, 0) = BAD", "house(0, 21) = BAD", "house(10000, -1) = BAD",
                "house(0, 0) = FULL");
    }

    private static void promise2NoLooksAtFirst() {
        Story.due("tell [5;1.1!!!,1.1!!!,1.1!!!] = 3", "tell [5;1.1] = 1", "house(7, 7) = 1", "house(7, 7) = 2",
                "of(1, 2) = 0", "of(1, 3) = 0", "of(2, 2) = 0", "count(5) = 0");
    }

    private static void promise2NobodyIsThereAtFirst() {
        Story.due("tell [5;1.1;p1,p2] = 1", "house(7, 7) = 1", "of(0, 4) = 3", "of(1, 4) = 0");
    }

    private static void promise2ANewHouseIsBehindTheLastOne() {
        Story.due("tell [0;50.5;p5] = 1", "nights(1) = 0", "at(0, 2) = 0", "house(500, 5) = 1", "nights(1) = 0", "at(0, 2) = 1",
                "house(500, 5) = 2", "nights(1) = 0", "at(0, 2) = 2", "nights(1) = 0", "at(0, 2) = 0");
    }

    private static void promise2ANewHouseLeavesNothingToBeUndone() {
        Story.due("house(100, 5) = 0", "put(0, 6) = 5", "nights(2) = 0", "count(8) = 3", "house(1, 1) = 1", "count(8) = 0",
                "undo() = NONE", "of(0, 1) = 6", "count(2) = 2", "put(1, 2) = 1", "count(8) = 1", "undo() = 0", "of(1, 1) = 1");
    }

    private static void promise2RefusedChangesNothing() {
        Story.rich("house(-1, 0) = BAD", "house(10000, 0) = BAD", "house(0, -1) = BAD", "house(0, 21) = BAD", "count(8) = 7");
        Story.due("house(1, 1) = 0", "house(1, 1) = 1", "house(1, 1) = 2", "house(1, 1) = 3", "house(1, 1) = 4",
                "house(1, 1) = 5", "nights(2) = 0", "pay(5, 1) = 0", "house(2, 2) = FULL", "house(2, 21) = BAD", "count(8) = 3");
    }

    // ---- 3: hog

    private static void promise3KindFrom0To4() {
        Story.due("house(9, 9) = 0", "hog(0, 5, 0) = 0", "hog(4, 5, 0) = 1", "hog(-1, 5, 0) = BAD", "hog(5, 5, 0) = BAD",
                "hog(least, 5, 0) = BAD", "hog(most, 5, 0) = BAD", "count(1) = 2", "at(0, 0) = 0", "at(1, 0) = 4");
    }

    private static void promise3HungryFrom1To9() {
        Story.due("house(9, 9) = 0", "hog(0, 1, 0) = 0", "hog(0, 9, 0) = 1", "hog(0, 0, 0) = BAD", "hog(0, 10, 0) = BAD",
                "hog(0, -1, 0) = BAD", "hog(0, least, 0) = BAD", "hog(0, most, 0) = BAD", "count(1) = 2", "at(0, 1) = 1",
                "at(1, 1) = 9");
    }

    private static void promise3NoSuchHouseIsBad() {
        Story.due("hog(0, 1, 0) = BAD", "house(9, 9) = 0", "house(9, 9) = 1", "hog(0, 1, 0) = 0", "hog(0, 1, 1) = 1",
                "hog(0, 1, 2) = BAD", "hog(0, 1, -1) = BAD", "hog(0, 1, least) = BAD", "hog(0, 1, most) = BAD", "count(1) = 2",
                "at(1, 2) = 1");
    }

    private static void promise3TheSixthHouseIsOne() {
        Story.due("tell [5;1.1,1.1,1.1,1.1,1.1,1.1] = 6", "hog(0, 1, 5) = 0", "hog(0, 1, 6) = BAD", "at(0, 2) = 5");
    }

    private static void promise3ALostHouseIsOne() {
        Story.due("tell [5;1.1!!!] = 1", "hog(0, 1, 0) = 0", "at(0, 2) = 0");
    }

    private static void promise3HogsAre0To4() {
        Story.due("house(9, 9) = 0", "hog(0, 1, 0) = 0", "hog(1, 2, 0) = 1", "hog(2, 3, 0) = 2", "hog(3, 4, 0) = 3",
                "hog(4, 5, 0) = 4", "hog(0, 6, 0) = FULL", "hog(4, 9, 0) = FULL", "count(1) = 5", "at(4, 0) = 4", "at(4, 1) = 5",
                "at(5, 0) = BAD");
    }

    private static void promise3FullBehindALaneOfFive() {
        Story.due("tell [5;1.1;p1,p1,p1,p1] = 1", "hog(1, 7, 0) = 4", "hog(1, 7, 0) = FULL", "tell [5;1.1;p1,p1,p1,p1,p1] = 1",
                "hog(1, 7, 0) = FULL", "tell [5;1.1] = 1", "hog(1, 7, 0) = 0");
    }

    private static void promise3BadAheadOfFull() {
        Story.due("tell [5;1.1;p1,p1,p1,p1,p1] = 1", "hog(5, 1, 0) = BAD", "hog(0, 10, 0) = BAD", "hog(0, 1, 1) = BAD",
                "hog(0, 1, 0) = FULL");
    }

    private static void promise3ANewHogLeavesNothingToBeUndone() {
        Story.due("tell [0;50.5,9.9;p5] = 2", "nights(1) = 0", "drive(0, 0) = 1", "count(8) = 2", "hog(0, 1, 1) = 1",
                "count(8) = 0", "undo() = NONE", "at(0, 2) = 0", "count(4) = 5", "drive(1, 0) = 1", "undo() = 0", "at(1, 2) = 1");
    }

    private static void promise3RefusedChangesNothing() {
        Story.rich("hog(-1, 1, 0) = BAD", "hog(5, 1, 0) = BAD", "hog(0, 0, 0) = BAD", "hog(0, 10, 0) = BAD", "hog(0, 1, 3) = BAD",
                "hog(0, 1, -1) = BAD", "count(8) = 7", "hog(0, 1, 0) = 2", "hog(0, 1, 0) = 3", "hog(0, 1, 0) = 4", "nights(1) = 0",
                "hog(0, 1, 0) = FULL", "hog(0, 1, 3) = BAD", "count(8) = 1");
    }

    // ---- 4: interest

    private static void promise4InterestFrom0To20() {
        Story.due("interest(0) = 5", "interest(20) = 0", "interest(21) = BAD", "interest(-1) = BAD", "interest(least) = BAD",
                "interest(most) = BAD", "count(3) = 20");
    }

    private static void promise4WhatItIsAlreadyIsTaken() {
        Story.due("interest(5) = 5", "interest(5) = 5", "count(3) = 5");
    }

    private static void promise4OfNothingAndOfMost() {
        Story.due("interest(0) = 5", "house(9999, 0) = 0", "house(100, 0) = 1", "nights(1) = 0", "of(0, 0) = 9999",
                "of(1, 0) = 100", "interest(20) = 0", "nights(1) = 0", "of(0, 0) = 9999", "of(1, 0) = 120");
    }

    private static void promise4IsNothingToBeUndone() {
        Story.due("house(100, 0) = 0", "interest(9) = 5", "count(8) = 0", "undo() = NONE", "put(0, 1) = 0", "interest(8) = 9",
                "count(8) = 1", "undo() = 0", "count(3) = 8");
    }

    private static void promise4RefusedChangesNothing() {
        Story.rich("interest(-1) = BAD", "interest(21) = BAD", "count(3) = 9");
    }

    // ---- 5: of

    private static void promise5OfAHouseThereIs() {
        Story.due("of(0, 0) = BAD", "house(1, 2) = 0", "of(0, 0) = 1", "of(1, 0) = BAD", "of(-1, 0) = BAD", "of(least, 0) = BAD",
                "of(most, 0) = BAD", "tell [5;1.1,2.2,3.3,4.4,5.5,6.6] = 6", "of(5, 0) = 60", "of(6, 0) = BAD");
    }

    private static void promise5What0To4() {
        Story.rich("of(2, 0) = 56", "of(2, 4) = 2", "of(2, -1) = BAD", "of(2, 5) = BAD", "of(2, least) = BAD", "of(2, most) = BAD",
                "of(3, 0) = BAD", "of(-1, 4) = BAD");
    }

    private static void promise5LostWith3Looks() {
        Story.due("tell [5;1.1,1.1!,1.1!!,1.1!!!] = 4", "of(0, 2) = 0", "of(1, 2) = 1", "of(2, 2) = 2", "of(3, 2) = 3",
                "of(0, 3) = 0", "of(1, 3) = 0", "of(2, 3) = 0", "of(3, 3) = 1");
    }

    private static void promise5HogsThereNoneAndAll() {
        Story.due("tell [5;1.1,1.1;p1,g1,s1,f1,y1] = 2", "of(0, 4) = 0b11111", "of(1, 4) = 0", "drive(4, 1) = 0",
                "of(0, 4) = 0b1111", "of(1, 4) = 0b10000", "drive(0, 1) = 0", "of(1, 4) = 0b10001");
    }

    private static void promise5OwesNothingAndMost() {
        Story.due("house(1, 0) = 0", "pay(0, 1) = 0", "of(0, 0) = 0", "house(9999, 20) = 1", "nights(1) = 0", "of(1, 0) = 9999");
    }

    // ---- 6: at

    private static void promise6AHogThereIs() {
        Story.due("at(0, 0) = BAD", "house(1, 1) = 0", "at(0, 0) = BAD", "hog(2, 3, 0) = 0", "at(0, 0) = 2", "at(1, 0) = BAD",
                "at(-1, 0) = BAD", "at(least, 0) = BAD", "at(most, 0) = BAD", "tell [5;1.1;p1,p1,p1,p1,y7] = 1", "at(4, 0) = 4",
                "at(5, 0) = BAD");
    }

    private static void promise6What0To3() {
        Story.rich("at(1, 0) = 2", "at(1, 3) = 3", "at(1, -1) = BAD", "at(1, 4) = BAD", "at(1, least) = BAD", "at(1, most) = BAD",
                "at(2, 0) = BAD", "at(-1, 3) = BAD");
    }

    private static void promise6PlainGreedyShyEatAsTheyAreHungry() {
        Story.due("tell [5;1.1;p1,g1,s1] = 1", "at(0, 3) = 1", "at(1, 3) = 1", "at(2, 3) = 1", "tell [5;1.1;p9,g9,s9] = 1",
                "at(0, 3) = 9", "at(1, 3) = 9", "at(2, 3) = 9");
    }

    private static void promise6FatEatsTwiceAsMuch() {
        Story.due("tell [5;1.1;f1,f9] = 1", "at(0, 3) = 2", "at(1, 3) = 18");
    }

    private static void promise6YoungEatsHalfOfItCut() {
        Story.due("tell [5;1.1;y1,y2,y3,y8,y9] = 1", "at(0, 3) = 0", "at(1, 3) = 1", "at(2, 3) = 1", "at(3, 3) = 4", "at(4, 3) = 4");
    }

    // ---- 7: type

    private static void promise7Letters32To126() {
        Story.due("type(32) = 1", "type(126) = 2", "type(31) = BAD", "type(127) = BAD", "type(0) = BAD", "type(-1) = BAD",
                "type(128) = BAD", "type(288) = BAD", "type(least) = BAD", "type(most) = BAD", "type('5') = 3");
    }

    private static void promise7Holds80Letters() {
        Story.due("write [" + "5;9.3" + " ".repeat(74) + "] = 79", "type('!') = 80", "type('!') = FULL", "type(' ') = FULL",
                "read() = 1", "of(0, 2) = 1");
    }

    private static void promise7BadAheadOfFull() {
        Story.due("write [" + "x".repeat(80) + "] = 80", "type(31) = BAD", "type(127) = BAD", "type(32) = FULL");
    }

    private static void promise7EmptyBehindALaneAndBehindAFault() {
        Story.due("write [" + "5;9.3" + " ".repeat(75) + "] = 80", "read() = 1", "type('x') = 1", "read() = -20", "type('x') = 1",
                "write [" + "y".repeat(79) + "] = 80", "read() = -20", "write [" + "5;9.3" + " ".repeat(75) + "] = 80",
                "type('x') = FULL", "read() = 1");
    }

    private static void promise7RefusedChangesNothing() {
        Story.rich("type(31) = BAD", "type(127) = BAD", "type('.') = 4", "type('2') = 5", "read() = 1", "of(0, 1) = 2");
    }

    private static void promise7OtherCallsLeaveTheTape() {
        Story.rich("restore() = 1", "image() = 1", "house(1, 1) = 3", "undo() = NONE", "nights(1) = 0", "undo() = 0",
                "type('.') = 4", "type('2') = 5", "read() = 1");
    }

    // ---- 9: count

    private static void promise9What0To8() {
        Story.rich("count(0) = 3", "count(8) = 7", "count(-1) = BAD", "count(9) = BAD", "count(least) = BAD", "count(most) = BAD");
    }

    private static void promise9HousesNoneAndSix() {
        Story.due("count(0) = 0", "tell [5;1.1] = 1", "count(0) = 1", "tell [5;1.1,1.1,1.1,1.1,1.1,1.1] = 6", "count(0) = 6");
    }

    private static void promise9HogsNoneAndFive() {
        Story.due("count(1) = 0", "tell [5;1.1;p1,p1,p1,p1,p1] = 1", "count(1) = 5", "tell [5;1.1] = 1", "count(1) = 0");
    }

    private static void promise9LostNoneAndAll() {
        Story.due("count(5) = 0", "tell [5;1.1!!,1.1!!] = 2", "count(5) = 0",
                "tell [5;1.1!!!,1.1!!!,1.1!!!,1.1!!!,1.1!!!,1.1!!!] = 6", "count(5) = 0b111111", "forgive(0) = 3",
                "count(5) = 0b111110", "forgive(5) = 3", "count(5) = 0b11110");
    }

    private static void promise9AllOweNothingAndMost() {
        Story.due("count(6) = 0", "house(0, 0) = 0", "count(6) = 0", "house(9999, 0) = 1", "house(9999, 0) = 2",
                "house(9999, 0) = 3", "house(9999, 0) = 4", "house(9999, 0) = 5", "count(6) = 49995",
                "tell [5;99.1!!!,1.1] = 2", "count(6) = 1000");
    }

    private static void promise9WinterIsNight15To19Of20() {
        Story.due("count(7) = 0", "nights(14) = 0", "count(2) = 14", "count(7) = 0", "nights(1) = 0", "count(7) = 1",
                "nights(4) = 0", "count(2) = 19", "count(7) = 1", "nights(1) = 0", "count(7) = 0", "nights(14) = 0",
                "count(2) = 34", "count(7) = 0", "nights(1) = 0", "count(7) = 1", "nights(5) = 0", "count(2) = 40",
                "count(7) = 0", "undo() = 7", "count(7) = 1");
    }

    private static void promise9TheLastNightIsWinter() {
        Story.due("249 times nights(40) = 0", "nights(34) = 0", "count(2) = 9994", "count(7) = 0", "nights(1) = 0", "count(7) = 1",
                "nights(4) = 0", "count(2) = 9999", "count(7) = 1");
    }

    private static void promise9From0To8MayBeUndone() {
        Story.due("count(8) = 0", "house(1, 1) = 0", "put(0, 2) = 1", "count(8) = 1", "nights(6) = 0", "count(8) = 7",
                "put(0, 3) = 2", "count(8) = 8", "put(0, 4) = 3", "count(8) = 8", "undo() = 7", "count(8) = 7");
    }
}
