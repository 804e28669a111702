/** Promise 10: each sentence of a NIGHT that names a boundary case, by a test of its own. */
public final class EdgesNightsTest {
    public static void main(String[] args) throws IllegalAccessException {
        Story.runAll(EdgesNightsTest.class, 10);
    }

    // ---- the call

    private static void promise10From1To40Nights() {
        Story.rich("nights(0) = BAD", "nights(-1) = BAD", "nights(41) = BAD", "nights(least) = BAD", "nights(most) = BAD",
                "count(2) = 3", "count(8) = 7");
        Story.due("nights(1) = 0", "count(2) = 1", "nights(40) = 0", "count(2) = 41");
    }

    private static void promise10AboveNight9999IsFull() {
        Story.due("tell [0;9.1;p1] = 1", "249 times nights(40) = 0", "count(2) = 9960", "nights(40) = FULL", "nights(39) = 0",
                "count(2) = 9999", "nights(1) = FULL", "nights(40) = FULL", "count(2) = 9999", "undo() = 7", "count(2) = 9998",
                "nights(2) = FULL", "nights(1) = 0", "count(2) = 9999");
    }

    private static void promise10BadAheadOfFull() {
        Story.due("tell [0;9.1;p1] = 1", "249 times nights(40) = 0", "nights(39) = 0", "nights(0) = BAD", "nights(41) = BAD",
                "nights(1) = FULL");
    }

    private static void promise10NightsBeginAnewBehindALane() {
        Story.due("tell [0;9.1] = 1", "249 times nights(40) = 0", "nights(39) = 0", "tell [0;9.1] = 1", "nights(40) = 0",
                "count(2) = 40");
    }

    private static void promise10EachNightMayBeUndoneByItself() {
        Story.due("tell [0;9.1;p1] = 1", "nights(3) = 0", "count(8) = 3", "of(0, 0) = 87", "undo() = 2", "of(0, 0) = 88",
                "count(2) = 2", "undo() = 1", "of(0, 0) = 89", "undo() = 0", "of(0, 0) = 90", "count(2) = 0", "undo() = NONE");
    }

    private static void promise10AnswersNoneToAllThatAreLost() {
        Story.due("tell [0;9.0!!,9.0!!,9.0!!,9.0!!,9.0!!,9.0!!;y1,p1@1,p1@2,p1@3,p1@4] = 6", "nights(1) = 0b11110",
                "count(5) = 0b11110", "tell [0;9.0!!,9.0!!,9.0!!,9.0!!,9.0!!,9.0!!;p1,p1@1,p1@2,p1@3,p1@4] = 6",
                "nights(1) = 0b11111", "nights(1) = 0b111111", "nights(1) = 0b111111", "tell [0;9.9] = 1", "nights(1) = 0");
    }

    private static void promise10ItIsTheNextNight() {
        Story.due("count(2) = 0", "nights(1) = 0", "count(2) = 1", "nights(14) = 0", "count(2) = 15", "nights(5) = 0",
                "count(2) = 20");
    }

    // ---- where a HOG goes

    private static void promise10House0IsNextBehindTheLastOne() {
        Story.due("tell [0;9.9,9.9;p1@1] = 2", "nights(1) = 0", "at(0, 2) = 0", "nights(1) = 0", "at(0, 2) = 1",
                "tell [0;9.9,9.9,9.9;p1@2] = 3", "nights(1) = 0", "at(0, 2) = 0", "tell [0;9.9,9.9,9.9,9.9;p1@3] = 4",
                "nights(1) = 0", "at(0, 2) = 0", "tell [0;9.9,9.9,9.9,9.9,9.9;p1@4] = 5", "nights(1) = 0", "at(0, 2) = 0",
                "tell [0;9.9,9.9,9.9,9.9,9.9,9.9;p1@5] = 6", "nights(1) = 0", "at(0, 2) = 0", "nights(5) = 0", "at(0, 2) = 5");
    }

    private static void promise10AHogStaysIfThereIsOneHouse() {
        Story.due("tell [0;50.20;p1,g1,s1,f1,y1] = 1", "nights(1) = 0", "of(0, 4) = 0b11111", "tell [0;0.0;p1,g1,s1,f1,y1] = 1",
                "nights(1) = 0", "of(0, 4) = 0b11111");
    }

    private static void promise10AHogStaysIfAllOthersAreLost() {
        Story.due("tell [0;0.0,9.9!!!,9.9!!!;p1,g1,s1,f1,y1] = 3", "nights(2) = 6", "of(0, 4) = 0b11111");
    }

    private static void promise10AHogStaysIfAllAreLost() {
        Story.due("tell [0;9.9!!!,9.9!!!,9.9!!!;p1@1,g1@1,s1@1,f1@1,y1@1] = 3", "nights(2) = 7", "of(1, 4) = 0b11111",
                "count(4) = 0");
    }

    private static void promise10ToTheNextThatIsNotLost() {
        Story.due("tell [0;9.9,9.9!!!,9.9!!!,9.9;p1] = 4", "nights(1) = 6", "at(0, 2) = 3", "tell [0;9.9,9.9!!!,9.9,9.9!!!;p1@2] = 4",
                "nights(1) = 10", "at(0, 2) = 0", "tell [0;9.9!!!,9.9,9.9;p1@2] = 3", "nights(1) = 1", "at(0, 2) = 1",
                "tell [0;9.9,9.9!!,9.9;p1] = 3", "nights(1) = 0", "at(0, 2) = 1");
    }

    private static void promise10ShyAndYoungGoPastOthers() {
        Story.due("tell [0;9.9,9.9,9.9;s1,p1@1] = 3", "nights(1) = 0", "at(0, 2) = 2", "tell [0;9.9,9.9,9.9;y1,p1@1] = 3",
                "nights(1) = 0", "at(0, 2) = 2", "tell [0;9.9,9.9,9.9,9.9;s1@2,p1@3,p1] = 4", "nights(1) = 0", "at(0, 2) = 1");
    }

    private static void promise10PlainGreedyFatDoNotGoPastOthers() {
        Story.due("tell [0;9.0,9.9,9.9;p1,p1@1] = 3", "nights(1) = 0", "at(0, 2) = 1", "tell [0;9.0,9.9,9.9;g1,p1@1] = 3",
                "nights(1) = 0", "at(0, 2) = 1", "tell [0;9.0,9.9,9.9;f1,p1@1] = 3", "nights(1) = 0", "at(0, 2) = 1");
    }

    private static void promise10WhereAnotherHogIsByThen() {
        Story.due("tell [0;9.9,9.9,9.9;p1@1,s1] = 3", "nights(1) = 0", "at(1, 2) = 1", "tell [0;9.9,9.9,9.9;p1,s1] = 3",
                "nights(1) = 0", "at(0, 2) = 1", "at(1, 2) = 2", "tell [0;9.9,9.9,9.9;g1@1,s1] = 3", "nights(1) = 0", "at(1, 2) = 2");
    }

    private static void promise10ShyGoesToTheNextIfAllOthersAreSuch() {
        Story.due("tell [0;9.9,9.9;s1,p1@1] = 2", "nights(1) = 0", "at(0, 2) = 1", "tell [0;9.9,9.9,9.9;y1,p1@1,p1@2] = 3",
                "nights(1) = 0", "at(0, 2) = 1", "tell [0;9.9,9.9,9.9;s1@2,p1,p1@1] = 3", "nights(1) = 0", "at(0, 2) = 0",
                "tell [0;9.9,9.9!!!,9.9,9.9;s1,p1@2,p1@3] = 4", "nights(1) = 2", "at(0, 2) = 2");
    }

    private static void promise10ShyIsNotShyOfItself() {
        Story.due("tell [0;9.9,9.9;s1] = 2", "nights(1) = 0", "at(0, 2) = 1", "nights(1) = 0", "at(0, 2) = 0",
                "tell [0;9.9,9.9,9.9;s1,p1] = 3", "nights(1) = 0", "at(0, 2) = 1", "at(1, 2) = 1");
    }

    private static void promise10ALostHouseWithAHogIsNoneOfTheOthers() {
        Story.due("tell [0;9.9,9.9!!!,9.9;s1,y1@1] = 3", "nights(1) = 2", "at(0, 2) = 2");
    }

    private static void promise10GreedyStaysIfItHadAsMuchAsItWould() {
        Story.due("tell [0;50.5,50.5;g5] = 2", "nights(1) = 0", "at(0, 2) = 0", "tell [0;50.4,50.5;g5] = 2", "nights(1) = 0",
                "at(0, 2) = 1", "tell [0;50.10,50.5;f5] = 2", "nights(1) = 0", "at(0, 2) = 0", "tell [0;50.9,50.5;f5] = 2",
                "nights(1) = 0", "at(0, 2) = 1");
    }

    private static void promise10GreedyGoesIfItHadLessThoughNothingIsOwed() {
        Story.due("tell [0;0.5,9.9;g5] = 2", "nights(1) = 0", "at(0, 2) = 0", "tell [0;0.4,9.9;g5] = 2", "nights(1) = 0",
                "at(0, 2) = 1", "of(0, 2) = 0");
    }

    private static void promise10PlainShyYoungDoNotStay() {
        Story.due("tell [0;50.20,50.20,50.20,50.20;p1,s1@1,y1@2] = 4", "nights(1) = 0", "at(0, 2) = 1", "at(1, 2) = 3",
                "at(2, 2) = 0");
    }

    private static void promise10AtALostHouseItEatsNothingAndGoesOn() {
        Story.due("tell [0;50.20!!!,50.20;g1,f1] = 2", "nights(1) = 1", "of(1, 4) = 3", "count(4) = 0", "of(0, 0) = 500",
                "of(0, 2) = 3", "tell [0;50.9!!!,50.9,50.9;s1,p1@1] = 3", "nights(1) = 1", "at(0, 2) = 2");
    }

    // ---- a meal

    private static void promise10EatsAsMuchAsItWouldOfWhatIsLeft() {
        Story.due("tell [0;50.5,50.4,50.0,50.20;p5,p5@1,p5@2,f9@3] = 4", "nights(1) = 0", "of(0, 0) = 495", "of(1, 0) = 496",
                "of(2, 0) = 500", "of(3, 0) = 482", "of(0, 2) = 0", "of(1, 2) = 1", "of(2, 2) = 1", "of(3, 2) = 0", "count(4) = 27");
    }

    private static void promise10TheNextOneEatsOfTheRest() {
        Story.due("tell [0;50.5;p3,p2] = 1", "nights(1) = 0", "of(0, 2) = 0", "count(4) = 5", "tell [0;50.5;p3,p3] = 1",
                "nights(1) = 0", "of(0, 2) = 1", "count(4) = 5", "tell [0;50.5;p5,p1] = 1", "nights(1) = 0", "of(0, 2) = 1",
                "count(4) = 5");
    }

    private static void promise10HogsComeRising() {
        Story.due("tell [0;50.5,50.5;g5,p3] = 2", "nights(1) = 0", "at(0, 2) = 0", "tell [0;50.5,50.5;p3,g5] = 2", "nights(1) = 0",
                "at(1, 2) = 1");
    }

    private static void promise10OwesLessBut0AtLeast() {
        Story.due("interest(0) = 5", "house(6, 5) = 0", "house(5, 5) = 1", "house(4, 5) = 2", "house(0, 5) = 3", "hog(0, 5, 0) = 0",
                "hog(0, 5, 1) = 1", "hog(0, 5, 2) = 2", "hog(0, 5, 3) = 3", "nights(1) = 0", "of(0, 0) = 1", "of(1, 0) = 0",
                "of(2, 0) = 0", "of(3, 0) = 0", "count(4) = 20");
    }

    private static void promise10ALookIfItHadLessAndSomethingIsOwedYet() {
        Story.due("interest(0) = 5", "house(5, 4) = 0", "house(4, 4) = 1", "house(3, 4) = 2", "house(0, 4) = 3", "hog(0, 5, 0) = 0",
                "hog(0, 5, 1) = 1", "hog(0, 5, 2) = 2", "hog(0, 5, 3) = 3", "nights(1) = 0", "of(0, 0) = 1", "of(0, 2) = 1",
                "of(1, 0) = 0", "of(1, 2) = 0", "of(2, 2) = 0", "of(3, 2) = 0");
    }

    private static void promise10OneThatWouldEatNothingGivesNoLook() {
        Story.due("tell [0;50.0;y1] = 1", "nights(40) = 0", "of(0, 2) = 0", "tell [0;50.0;y2] = 1", "nights(1) = 0", "of(0, 2) = 1");
    }

    private static void promise10SeveralLooksInOneNight() {
        Story.due("tell [0;50.0;p1] = 1", "nights(1) = 0", "of(0, 2) = 1", "tell [0;50.0;p1,p1] = 1", "nights(1) = 0",
                "of(0, 2) = 2", "tell [0;50.0;p1,p1,p1] = 1", "nights(1) = 1", "of(0, 2) = 3", "tell [0;50.0;p1,p1,p1,p1,p1] = 1",
                "nights(1) = 1", "of(0, 2) = 3");
    }

    private static void promise10With3LooksItIsLostAtOnce() {
        Story.due("tell [10;50.5!!,50.9;p6,p1@1] = 2", "nights(1) = 1", "of(0, 0) = 495", "of(0, 2) = 3", "at(0, 2) = 1",
                "at(1, 2) = 1", "of(1, 0) = 548", "tell [10;50.5!,50.9;p6,p1@1] = 2", "nights(1) = 0", "of(0, 0) = 544",
                "at(1, 2) = 0");
    }

    private static void promise10LostForGood() {
        Story.due("tell [20;50.20!!!;p1] = 1", "3 times nights(40) = 1", "of(0, 0) = 500", "of(0, 2) = 3", "count(4) = 0",
                "pay(0, 500) = 0", "nights(1) = 1", "of(0, 3) = 1");
    }

    private static void promise10WhatIsLeftIsPouredAway() {
        Story.due("tell [0;50.5,50.5;p3,p7@1] = 2", "nights(1) = 0", "count(4) = 8", "nights(1) = 0", "count(4) = 16");
    }

    // ---- interest

    private static void promise10InterestIsCut() {
        Story.due("house(0, 0) = 0", "house(1, 0) = 1", "house(19, 0) = 2", "house(20, 0) = 3", "house(39, 0) = 4",
                "house(40, 0) = 5", "nights(1) = 0", "of(0, 0) = 0", "of(1, 0) = 1", "of(2, 0) = 19", "of(3, 0) = 21",
                "of(4, 0) = 40", "of(5, 0) = 42");
    }

    private static void promise10OwesAreAtMost9999() {
        Story.due("house(9522, 0) = 0", "house(9523, 0) = 1", "house(9524, 0) = 2", "house(9999, 0) = 3", "nights(1) = 0",
                "of(0, 0) = 9998", "of(1, 0) = 9999", "of(2, 0) = 9999", "of(3, 0) = 9999", "tell [20;1.1] = 1",
                "house(8332, 0) = 1", "house(8333, 0) = 2", "house(8334, 0) = 3", "house(9999, 0) = 4", "nights(1) = 0",
                "of(1, 0) = 9998", "of(2, 0) = 9999", "of(3, 0) = 9999", "of(4, 0) = 9999");
    }

    private static void promise10InterestIsOfWhatIsOwedBehindTheMeals() {
        Story.due("tell [10;10.9;p9] = 1", "nights(1) = 0", "of(0, 0) = 100", "tell [10;1.20;f9] = 1", "nights(1) = 0",
                "of(0, 0) = 0");
    }

    private static void promise10NoInterestForALostHouse() {
        Story.due("tell [20;50.0!!!,50.0!!] = 2", "nights(1) = 1", "of(0, 0) = 500", "of(1, 0) = 600");
    }

    // ---- WINTER

    private static void promise10WinterIsNight15To19Of20() {
        Story.due("tell [0;99.5,99.5;p5] = 2", "nights(14) = 0", "count(4) = 70", "nights(1) = 0", "count(4) = 75", "nights(1) = 0",
                "count(4) = 75", "nights(3) = 0", "count(2) = 19", "count(4) = 75", "nights(1) = 0", "count(4) = 75",
                "nights(1) = 0", "count(4) = 80", "nights(14) = 0", "count(2) = 35", "count(4) = 150", "nights(5) = 0",
                "count(4) = 150", "nights(1) = 0", "count(4) = 155");
    }

    private static void promise10InWinterNothingIsDone() {
        Story.due("tell [0;50.0!!,50.9] = 2", "nights(15) = 0", "interest(20) = 0", "hog(0, 5, 0) = 0", "hog(2, 3, 1) = 1",
                "nights(5) = 0", "count(2) = 20", "of(0, 0) = 500", "of(0, 2) = 2", "of(1, 0) = 500", "at(0, 2) = 0",
                "at(1, 2) = 1", "count(4) = 0", "nights(1) = 1", "of(0, 0) = 500", "of(1, 0) = 596");
    }

    private static void promise10ANightOfWinterMayBeUndone() {
        Story.due("nights(15) = 0", "house(1, 1) = 0", "nights(5) = 0", "count(8) = 5", "undo() = 4", "count(2) = 19");
    }

    private static void promise10TheLastNightIsOfWinter() {
        Story.due("interest(0) = 5", "house(9999, 1) = 0", "hog(0, 1, 0) = 0", "249 times nights(40) = 0", "nights(34) = 0",
                "count(4) = 7499", "nights(1) = 0", "count(4) = 7500", "nights(4) = 0", "count(2) = 9999", "count(4) = 7500",
                "of(0, 0) = 2499");
    }

    // ---- all of it

    private static void promise10ByHand() {
        Story.rich("of(0, 0) = 476", "of(1, 0) = 1084", "of(2, 0) = 56", "of(0, 1) = 8", "of(1, 1) = 3", "of(2, 1) = 11",
                "of(0, 2) = 0", "of(1, 2) = 0", "of(2, 2) = 0", "at(0, 2) = 1", "at(1, 2) = 2", "count(2) = 3", "count(4) = 20",
                "count(3) = 9", "count(8) = 7", "seed(1) = 1103527590");
    }
}
