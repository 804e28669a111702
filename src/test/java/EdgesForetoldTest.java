/** Promises 18 to 30: each sentence that names a boundary case, by a test of its own. */
public final class EdgesForetoldTest {
    private static final String SIX = "tell [0;1.1,1.1,1.1,1.1,1.1,1.1] = 6";

    public static void main(String[] args) throws IllegalAccessException {
        Story.runAll(EdgesForetoldTest.class, 18, 19, 20, 21, 22, 23, 24, 25, 26, 27, 28, 29, 30);
    }

    // ---- 18: ahead

    private static void promise18Behind0To60Nights() {
        Story.due("tell [0;99.1;p1] = 1", "ahead(0, 0, 0) = 990", "ahead(0, 60, 0) = 945", "ahead(0, -1, 0) = BAD",
                "ahead(0, 61, 0) = BAD", "ahead(0, least, 0) = BAD", "ahead(0, most, 0) = BAD");
        Story.rich("ahead(0, 0, 0) = 476", "ahead(0, -1, 0) = BAD", "ahead(0, 61, 1) = BAD");
    }

    private static void promise18OfAHouseThereIs() {
        Story.due("ahead(0, 0, 0) = BAD", SIX, "ahead(5, 0, 0) = 10", "ahead(6, 0, 0) = BAD");
        Story.rich("ahead(2, 0, 0) = 56", "ahead(3, 0, 0) = BAD", "ahead(-1, 0, 0) = BAD", "ahead(least, 0, 0) = BAD",
                "ahead(most, 0, 0) = BAD");
    }

    private static void promise18What0To1() {
        Story.rich("ahead(0, 0, 0) = 476", "ahead(0, 0, 1) = 0", "ahead(0, 0, -1) = BAD", "ahead(0, 0, 2) = BAD",
                "ahead(0, 0, least) = BAD", "ahead(0, 0, most) = BAD");
    }

    private static void promise18LooksFrom0To3() {
        Story.due("tell [0;50.0;p1] = 1", "ahead(0, 0, 1) = 0", "ahead(0, 1, 1) = 1", "ahead(0, 2, 1) = 2", "ahead(0, 3, 1) = 3",
                "ahead(0, 4, 1) = 3", "ahead(0, 60, 1) = 3");
    }

    private static void promise18OwesFrom0To9999() {
        Story.due("tell [20;99.0,1.20;f9@1] = 2", "ahead(0, 60, 0) = 9999", "ahead(1, 1, 0) = 0", "ahead(1, 60, 0) = 0");
    }

    private static void promise18NotInWinter() {
        Story.due("tell [0;99.1;p1] = 1", "ahead(0, 14, 0) = 976", "ahead(0, 15, 0) = 975", "ahead(0, 16, 0) = 975",
                "ahead(0, 20, 0) = 975", "ahead(0, 21, 0) = 974");
    }

    private static void promise18BehindNight9999Too() {
        Story.due("interest(0) = 5", "house(9999, 1) = 0", "hog(0, 1, 0) = 0", "249 times nights(40) = 0", "nights(39) = 0",
                "ahead(0, 0, 0) = 2499", "ahead(0, 1, 0) = 2499", "ahead(0, 2, 0) = 2498", "ahead(0, 16, 0) = 2484",
                "ahead(0, 17, 0) = 2484", "ahead(0, 60, 0) = 2454");
    }

    // ---- 19: where

    private static void promise19Behind0To60Nights() {
        Story.due("tell [0;9.5,9.5,9.5;p5] = 3", "where(0, 0) = 0", "where(0, 1) = 1", "where(0, 2) = 2", "where(0, 3) = 0",
                "where(0, 14) = 2", "where(0, 15) = 0", "where(0, 20) = 0", "where(0, 21) = 1", "where(0, 60) = 0", "where(0, 61) = BAD",
                "where(0, -1) = BAD", "where(0, least) = BAD", "where(0, most) = BAD");
        Story.rich("where(0, 0) = 1", "where(0, 61) = BAD", "where(0, -1) = BAD");
    }

    private static void promise19AHogThereIs() {
        Story.due("where(0, 0) = BAD", SIX, "where(0, 0) = BAD", "tell [0;1.1,1.1;p1,p1,p1,p1,p1@1] = 2", "where(4, 0) = 1",
                "where(5, 0) = BAD");
        Story.rich("where(1, 0) = 2", "where(2, 0) = BAD", "where(-1, 0) = BAD", "where(least, 0) = BAD", "where(most, 0) = BAD");
    }

    private static void promise19WhereItStays() {
        Story.due("tell [0;9.9;p1] = 1", "where(0, 60) = 0", "tell [0;9.9!!!,9.9!!!;p1@1] = 2", "where(0, 60) = 1",
                "tell [0;9.9,9.9;g9@1] = 2", "where(0, 60) = 1");
    }

    // ---- 20: then

    private static void promise20Behind0To60Nights() {
        Story.due("tell [0;9.5;p5] = 1", "nights(2) = 0", "then(0, 1) = 10", "then(1, 1) = 15", "then(60, 1) = 235",
                "then(61, 1) = BAD", "then(-1, 1) = BAD", "then(least, 0) = BAD", "then(most, 0) = BAD");
        Story.rich("then(0, 1) = 20", "then(61, 0) = BAD", "then(-1, 0) = BAD");
    }

    private static void promise20What0To1() {
        Story.rich("then(0, 0) = 0", "then(0, 1) = 20", "then(0, -1) = BAD", "then(0, 2) = BAD", "then(0, least) = BAD",
                "then(0, most) = BAD");
    }

    private static void promise20LostNoneToAll() {
        Story.due("then(60, 0) = 0", "then(60, 1) = 0", "tell [0;9.0!!,9.0!!,9.0!!,9.0!!,9.0!!,9.0!!;p1,p1@1,p1@2,p1@3,p1@4] = 6",
                "then(0, 0) = 0", "then(1, 0) = 0b11111", "then(2, 0) = 0b111111", "then(60, 0) = 0b111111");
    }

    // ---- 21: lost

    private static void promise21OfAHouseThereIs() {
        Story.due("lost(0) = BAD", SIX, "lost(5) = NONE", "lost(6) = BAD");
        Story.rich("lost(3) = BAD", "lost(-1) = BAD", "lost(least) = BAD", "lost(most) = BAD");
    }

    private static void promise21Behind0NightsIfItIsNow() {
        Story.due("tell [0;9.0!!!,9.0!!;p1@1] = 2", "lost(0) = 0", "lost(1) = 1", "nights(1) = 3", "lost(1) = 0");
    }

    private static void promise21TheFirstNight() {
        Story.due("tell [0;50.0;p1] = 1", "lost(0) = 3", "tell [0;50.0!;p1] = 1", "lost(0) = 2", "tell [0;50.0!!;p1] = 1",
                "lost(0) = 1");
    }

    private static void promise21BehindWinter() {
        Story.due("tell [0;50.0!!] = 1", "nights(15) = 0", "hog(0, 1, 0) = 0", "lost(0) = 6", "nights(4) = 0", "lost(0) = 2",
                "nights(1) = 0", "lost(0) = 1");
    }

    private static void promise21Behind60NightsAndNotBehind61() {
        Story.due("tell [0;62.5!!,64.12,78.15!!,9.16!,65.8,24.11;s5@0,g2@5,p5@2] = 6", "nights(11) = 0", "lost(4) = NONE",
                "nights(1) = 0", "lost(4) = 60", "nights(40) = 0", "lost(4) = 20", "nights(19) = 0", "lost(4) = 1", "nights(1) = 16",
                "lost(4) = 0");
    }

    private static void promise21NoneIfItNeverIs() {
        Story.due("tell [0;50.5!!,0.0!!;p5] = 2", "lost(0) = NONE", "lost(1) = NONE", "tell [0;1.0!!;y1] = 1", "lost(0) = NONE");
    }

    // ---- 22: free

    private static void promise22OfAHouseThereIs() {
        Story.due("free(0) = BAD", SIX, "free(5) = NONE", "free(6) = BAD");
        Story.rich("free(3) = BAD", "free(-1) = BAD", "free(least) = BAD", "free(most) = BAD");
    }

    private static void promise22Behind0NightsIfItIsNow() {
        Story.due("house(0, 5) = 0", "free(0) = 0", "house(1, 5) = 1", "free(1) = NONE", "pay(1, 1) = 0", "free(1) = 0");
    }

    private static void promise22Behind60NightsAndNotBehind61() {
        Story.due("interest(0) = 5", "house(50, 1) = 0", "hog(0, 1, 0) = 0", "nights(5) = 0", "of(0, 0) = 45", "free(0) = 60",
                "house(46, 1) = 1", "drive(0, 1) = 0", "free(1) = NONE");
        Story.due("interest(0) = 5", "house(51, 1) = 0", "hog(0, 1, 0) = 0", "nights(5) = 0", "of(0, 0) = 46", "free(0) = NONE",
                "pay(0, 1) = 45", "free(0) = 60");
    }

    private static void promise22TheFirstNight() {
        Story.due("interest(0) = 5", "house(1, 5) = 0", "hog(0, 5, 0) = 0", "free(0) = 1", "house(10, 5) = 1", "free(1) = 4");
    }

    private static void promise22LostOrNot() {
        Story.due("tell [0;1.5!!!,9.9!!!;p5] = 2", "free(0) = NONE", "pay(0, 10) = 0", "free(0) = 0", "free(1) = NONE");
    }

    // ---- 23: keep

    private static void promise23Of1To40Nights() {
        Story.due("tell [0;99.0!!;p7] = 1", "keep(0, 1) = 7", "keep(0, 40) = 7", "keep(0, 0) = BAD", "keep(0, -1) = BAD",
                "keep(0, 41) = BAD", "keep(0, least) = BAD", "keep(0, most) = BAD");
        Story.rich("keep(0, 0) = BAD", "keep(0, 41) = BAD");
    }

    private static void promise23OfAHouseThereIs() {
        Story.due("keep(0, 1) = BAD", SIX, "keep(5, 1) = 0", "keep(6, 1) = BAD");
        Story.rich("keep(2, 1) = 0", "keep(3, 1) = BAD", "keep(-1, 1) = BAD", "keep(least, 1) = BAD", "keep(most, 1) = BAD");
    }

    private static void promise23From0To20() {
        Story.due("tell [0;99.9;p7] = 1", "keep(0, 2) = 0", "keep(0, 3) = 7", "tell [0;99.0!!;f9,p1] = 1", "keep(0, 1) = 19",
                "tell [0;99.0!!;f9,p2] = 1", "keep(0, 1) = 20", "tell [0;99.0!!;f9,p3] = 1", "keep(0, 1) = NONE",
                "tell [0;99.0;y1] = 1", "keep(0, 40) = 0");
    }

    private static void promise23NoneIfItIsLostByNow() {
        Story.due("tell [0;99.20!!!] = 1", "keep(0, 1) = NONE", "keep(0, 40) = NONE", "forgive(0) = 3", "keep(0, 1) = 0");
    }

    private static void promise23NothingIsNeededInWinter() {
        Story.due("tell [0;99.0!!] = 1", "nights(15) = 0", "hog(0, 7, 0) = 0", "keep(0, 5) = 0", "keep(0, 6) = 7");
    }

    private static void promise23WhatIsPutOutNowIsNoMatter() {
        Story.due("tell [0;99.20!!,99.3!!;p7,p4@1] = 2", "keep(0, 1) = 7", "keep(1, 1) = 4", "of(0, 1) = 20", "of(1, 1) = 3");
    }

    private static void promise23LessIsEnoughIfItPaysAll() {
        Story.due("tell [0;1.0!!;f8] = 1", "keep(0, 1) = 10", "pay(0, 1) = 9", "keep(0, 1) = 9");
    }

    // ---- 24: part

    private static void promise24From0To12Spoons() {
        Story.due("tell [0;50.0!!;p3] = 1", "part(0, 1, -1) = 0", "part(0, 1, -2) = 500", "part(0, 1, 0) = 0", "part(2, 1, -1) = 0",
                "part(2, 1, -2) = 498", "part(3, 1, -1) = 1", "part(12, 1, -1) = 1", "part(12, 1, -2) = 497", "part(12, 1, 0) = 12",
                "part(-1, 1, 0) = BAD", "part(13, 1, 0) = BAD", "part(least, 1, 0) = BAD", "part(most, 1, 0) = BAD");
        Story.rich("part(-1, 1, 0) = BAD", "part(13, 1, 0) = BAD");
    }

    private static void promise24Of1To30Nights() {
        Story.due("tell [0;99.0!!;p3] = 1", "part(3, 1, -2) = 987", "part(3, 30, -2) = 915", "part(3, 30, -1) = 1",
                "part(3, 0, -1) = BAD", "part(3, -1, -1) = BAD", "part(3, 31, -1) = BAD", "part(3, least, -1) = BAD",
                "part(3, most, -1) = BAD");
        Story.rich("part(3, 0, 0) = BAD", "part(3, 31, 0) = BAD");
    }

    private static void promise24BelowMinus2IsBad() {
        Story.rich("part(0, 1, -2) = 1760", "part(0, 1, -1) = 3", "part(0, 1, -3) = BAD", "part(0, 1, least) = BAD");
    }

    private static void promise24NoneOfAHouseThatIsNot() {
        Story.rich("part(2, 1, 2) = 2", "part(2, 1, 3) = NONE", "part(2, 1, 5) = NONE", "part(2, 1, 6) = NONE", "part(2, 1, most) = NONE");
        Story.due(SIX, "part(2, 1, 5) = 2", "part(2, 1, 6) = NONE");
    }

    private static void promise24NoneIfThereAreNoHouses() {
        Story.due("part(0, 1, -2) = NONE", "part(0, 1, -1) = NONE", "part(12, 30, 0) = NONE", "part(12, 30, most) = NONE");
    }

    private static void promise24BadOfNumbersThoughThereAreNoHouses() {
        Story.due("part(-1, 1, 0) = BAD", "part(13, 1, 0) = BAD", "part(0, 0, 0) = BAD", "part(0, 31, 0) = BAD", "part(0, 1, -3) = BAD");
    }

    private static void promise24AllSpoonsAreParted() {
        Story.due(SIX, "part(12, 30, 0) = 0", "part(12, 30, 4) = 0", "part(12, 30, 5) = 12", "part(12, 30, -1) = 6",
                "part(12, 30, -2) = 60", "part(0, 30, 5) = 0", "tell [0;0.1] = 1", "part(12, 1, 0) = 12", "part(7, 1, 0) = 7");
    }

    private static void promise24MostThatAreNotLost() {
        Story.due("tell [20;99.0!!,99.0;p3] = 2", "part(3, 1, -1) = 2", "part(3, 1, -2) = 2372", "part(3, 1, 0) = 3", "part(3, 1, 1) = 0",
                "part(2, 1, -1) = 1", "part(2, 1, -2) = 2176", "part(2, 1, 0) = 2", "part(2, 1, 1) = 0");
    }

    private static void promise24OfLikeOnesLeastOwed() {
        Story.due("tell [0;50.0,50.0;p3,p4@1] = 2", "part(7, 1, -2) = 993", "part(7, 1, 0) = 3", "part(7, 1, 1) = 4",
                "part(8, 1, -2) = 993", "part(8, 1, 0) = 3", "part(8, 1, 1) = 5");
    }

    private static void promise24OfLikeOnesTheFirst() {
        Story.due("tell [0;50.0,50.0;p3,p4@1] = 2", "part(3, 1, 0) = 0", "part(3, 1, 1) = 3", "part(5, 1, 0) = 1", "part(5, 1, 1) = 4",
                "tell [0;0.0,0.0,0.0] = 3", "part(4, 1, 0) = 0", "part(4, 1, 1) = 0", "part(4, 1, 2) = 4");
    }

    private static void promise24FromTheFirstWayToTheLast() {
        Story.due("tell [0;50.0,50.0,50.0!!;f6@2] = 3", "part(12, 1, 0) = 0", "part(12, 1, 1) = 0", "part(12, 1, 2) = 12", "part(12, 1, -1) = 3",
                "part(12, 1, -2) = 1488", "tell [0;50.0!!,50.0,50.0;f6] = 3", "part(12, 1, 0) = 12", "part(12, 1, 1) = 0", "part(12, 1, 2) = 0",
                "part(12, 1, -1) = 3", "part(12, 1, -2) = 1488", "tell [0;50.0!!,50.0,50.0!!;p3,p4@2] = 3", "part(7, 1, 0) = 3",
                "part(7, 1, 1) = 0", "part(7, 1, 2) = 4", "part(7, 1, -1) = 3", "part(7, 1, -2) = 1493");
        Story.due("tell [0;50.0,50.0!!,50.0,50.0!!,50.0,50.0!!;p3@1,p4@3,p5@5] = 6", "part(12, 1, 0) = 0", "part(12, 1, 1) = 3",
                "part(12, 1, 2) = 0", "part(12, 1, 3) = 4", "part(12, 1, 4) = 0", "part(12, 1, 5) = 5", "part(12, 1, -1) = 6",
                "part(12, 1, -2) = 2988", "part(11, 1, -1) = 5", "part(11, 1, 1) = 2", "part(11, 1, 3) = 4", "part(11, 1, 5) = 5");
    }

    private static void promise24LostOnesOweToo() {
        Story.due("tell [0;50.0!!!,50.0] = 2", "part(0, 1, -1) = 1", "part(0, 1, -2) = 1000", "tell [0;50.0!!!,40.0!!!] = 2",
                "part(5, 1, -1) = 0", "part(5, 1, -2) = 900", "part(5, 1, 0) = 0", "part(5, 1, 1) = 5");
    }

    private static void promise24WhatIsPutOutNowIsNoMatter() {
        Story.due("tell [0;50.20!!;p3] = 1", "part(0, 1, -1) = 0", "of(0, 1) = 20");
    }

    // ---- 25: drives

    private static void promise25OfAHouseThereIs() {
        Story.due("drives(0, 1, 0) = BAD", SIX, "drives(5, 1, 0) = NONE", "drives(6, 1, 0) = BAD");
        Story.rich("drives(3, 1, 0) = BAD", "drives(-1, 1, 0) = BAD", "drives(least, 1, 0) = BAD", "drives(most, 1, 0) = BAD");
    }

    private static void promise25Of1To40Nights() {
        Story.due("tell [0;50.9,50.9;p5] = 2", "drives(0, 1, 0) = 1", "drives(0, 40, 1) = 0", "drives(0, 0, 0) = BAD",
                "drives(0, -1, 0) = BAD", "drives(0, 41, 0) = BAD", "drives(0, least, 0) = BAD", "drives(0, most, 0) = BAD");
        Story.rich("drives(0, 0, 0) = BAD", "drives(0, 41, 0) = BAD");
    }

    private static void promise25What0To1() {
        Story.rich("drives(0, 1, 1) = 0", "drives(0, 1, -1) = BAD", "drives(0, 1, 2) = BAD", "drives(0, 1, least) = BAD",
                "drives(0, 1, most) = BAD");
    }

    private static void promise25NoneIfThereIsNoHog() {
        Story.due("tell [0;9.9,9.9] = 2", "drives(0, 1, 0) = NONE", "drives(0, 40, 1) = NONE");
    }

    private static void promise25NoneIfThereIsNoOtherHouse() {
        Story.due("tell [0;9.9;p1,g1] = 1", "drives(0, 1, 0) = NONE", "drives(0, 1, 1) = NONE", "house(1, 1) = 1", "drives(0, 1, 0) = 1");
    }

    private static void promise25BadAheadOfNone() {
        Story.due("tell [0;9.9;p1] = 1", "drives(1, 1, 0) = BAD", "drives(0, 41, 0) = BAD", "drives(0, 1, 2) = BAD",
                "drives(0, 1, 0) = NONE");
    }

    private static void promise25ToAHouseWhereItIsNot() {
        Story.due("tell [0;50.5,50.5;p5] = 2", "drives(0, 1, 0) = 1", "ahead(0, 1, 0) = 495", "tell [0;50.0!!,50.5;p5@1] = 2",
                "drives(0, 1, 0) = 0", "drives(0, 1, 1) = 3");
    }

    private static void promise25FirstToldIs0AndLastIs45() {
        Story.due("tell [0;50.9,50.9;p5@1] = 2", "drives(0, 1, 0) = 0",
                "tell [0;0.0,0.0,0.0,0.0,0.0,50.5;y1,y1,y1,y1,p5] = 6", "drives(5, 1, 0) = 45", "drives(5, 1, 1) = 0");
    }

    private static void promise25FewestLooks() {
        Story.due("tell [0;50.9,50.9,50.3;p5@1] = 3", "drives(2, 1, 0) = 0", "drives(2, 1, 1) = 0", "tell [0;50.0,50.9;p5,p5] = 2",
                "drives(0, 1, 0) = 1", "drives(0, 1, 1) = 1");
    }

    private static void promise25OfLikeOnesLeastItOwes() {
        Story.due("tell [0;50.9,50.9,50.9;p5@1] = 3", "drives(2, 1, 0) = 2", "tell [0;50.20,50.9;p5@1,p6@1] = 2", "drives(0, 1, 0) = 10");
    }

    private static void promise25OfLikeOnesTheFirst() {
        Story.due("tell [0;0.5,0.5,0.5;p1@1,p1@0] = 3", "drives(2, 1, 0) = 0", "tell [0;0.5,0.5,0.5;p1,p1@1] = 3", "drives(2, 1, 0) = 1",
                "tell [0;50.20,50.9;p5@1,p5@1] = 2", "drives(0, 1, 0) = 0");
    }

    private static void promise25ToALostHouseToo() {
        Story.due("tell [0;50.0,50.0!!!;p5] = 2", "drives(0, 1, 0) = 1", "drives(0, 1, 1) = 0", "drives(0, 2, 1) = 1");
    }

    private static void promise25OfALostHouse() {
        Story.due("tell [0;50.9!!!,50.9;p5] = 2", "drives(0, 1, 0) = 1", "drives(0, 1, 1) = 3");
    }

    // ---- 26: visits

    private static void promise26Of1To40Nights() {
        Story.due("tell [0;99.5;p5] = 1", "visits(1, 1) = 1", "visits(40, 1) = 30", "visits(0, 0) = BAD", "visits(-1, 0) = BAD",
                "visits(41, 0) = BAD", "visits(least, 0) = BAD", "visits(most, 0) = BAD");
        Story.rich("visits(0, 0) = BAD", "visits(41, 0) = BAD");
    }

    private static void promise26What0To1() {
        Story.rich("visits(1, 0) = 1", "visits(1, 1) = 1", "visits(1, -1) = BAD", "visits(1, 2) = BAD", "visits(1, least) = BAD",
                "visits(1, most) = BAD");
    }

    private static void promise26NoneIfThereAreNoHouses() {
        Story.due("visits(1, 0) = NONE", "visits(40, 1) = NONE");
    }

    private static void promise26BadOfNumbersThoughThereAreNoHouses() {
        Story.due("visits(0, 0) = BAD", "visits(41, 0) = BAD", "visits(1, 2) = BAD", "visits(1, -1) = BAD");
    }

    private static void promise26NobodyEats() {
        Story.due("tell [0;9.9,9.9] = 2", "visits(40, 0) = 0", "visits(40, 1) = 0");
    }

    private static void promise26JustMealsOfSomething() {
        Story.due("tell [0;50.0,0.1;p5] = 2", "visits(1, 0) = 0", "visits(1, 1) = 0", "visits(2, 0) = 1", "visits(2, 1) = 1",
                "tell [0;9.9;y1] = 1", "visits(40, 1) = 0", "tell [0;50.2;p1,p1,p1] = 1", "visits(1, 1) = 2");
    }

    private static void promise26EachHogCounts() {
        Story.due("tell [0;0.20;p1,p1,p1,p1,p1] = 1", "visits(1, 1) = 5", "visits(40, 1) = 150");
    }

    private static void promise26OfLikeOnesTheFirst() {
        Story.due("tell [0;9.9,9.9,9.9;p5@2,p5@1] = 3", "visits(1, 0) = 1", "visits(1, 1) = 1", "tell [0;9.9,9.9,9.9;p5@2,p5] = 3",
                "visits(1, 0) = 0", "visits(2, 0) = 0", "visits(2, 1) = 2");
    }

    private static void promise26TheLastHouse() {
        Story.due("tell [0;0.0,0.0,0.0,0.0,0.0,9.9;g9@5] = 6", "visits(2, 0) = 5", "visits(2, 1) = 2");
    }

    private static void promise26NotInWinterAndNotAtALostHouse() {
        Story.due("tell [0;9.9!!!,9.9;p1@1,p1@1] = 2", "visits(1, 0) = 1", "visits(1, 1) = 2", "nights(15) = 1", "visits(5, 0) = 0",
                "visits(5, 1) = 0", "visits(6, 0) = 1", "visits(6, 1) = 2");
    }

    private static void promise26FromNowOn() {
        Story.due("tell [0;99.9;p1] = 1", "nights(9) = 0", "visits(1, 1) = 1", "visits(1, 1) = 1");
    }

    // ---- 27: solvent

    private static void promise27OfAHouseThereIs() {
        Story.due("solvent(0, 1) = BAD", SIX, "solvent(5, 1) = 9", "solvent(6, 1) = BAD");
        Story.rich("solvent(3, 1) = BAD", "solvent(-1, 1) = BAD", "solvent(least, 1) = BAD", "solvent(most, 1) = BAD");
    }

    private static void promise27Of1To40Nights() {
        Story.due("tell [0;10.9;p9] = 1", "solvent(0, 1) = 10", "solvent(0, 40) = 10", "solvent(0, 0) = BAD", "solvent(0, -1) = BAD",
                "solvent(0, 41) = BAD", "solvent(0, least) = BAD", "solvent(0, most) = BAD");
        Story.rich("solvent(0, 0) = BAD", "solvent(0, 41) = BAD");
    }

    private static void promise27From0To20() {
        Story.due("house(100, 0) = 0", "solvent(0, 1) = 0", "house(99, 0) = 1", "solvent(1, 1) = 1", "house(0, 0) = 2",
                "solvent(2, 40) = 20", "house(4, 0) = 3", "solvent(3, 40) = 20", "house(5, 0) = 4", "solvent(4, 1) = 19");
    }

    private static void promise27NoMoreThan9999() {
        Story.due("house(9999, 0) = 0", "solvent(0, 40) = 20", "house(9998, 0) = 1", "solvent(1, 1) = 0");
    }

    private static void promise27ALostHouseHasNoInterest() {
        Story.due("tell [9;10.9!!!,10.9!!] = 2", "solvent(0, 40) = 20", "solvent(1, 40) = 0");
    }

    private static void promise27NoInterestInWinter() {
        Story.due("tell [0;10.9] = 1", "nights(15) = 0", "solvent(0, 5) = 20", "solvent(0, 6) = 0");
    }

    private static void promise27InterestNowIsNoMatter() {
        Story.due("tell [20;10.9;p9] = 1", "solvent(0, 1) = 10", "count(3) = 20", "interest(0) = 20", "solvent(0, 1) = 10");
    }

    // ---- 28: sleep

    private static void promise28OfAHouseThereIs() {
        Story.due("sleep(0, 0, 0) = BAD", SIX, "sleep(5, 0, 0) = 0", "sleep(6, 0, 0) = BAD");
        Story.rich("sleep(3, 0, 0) = BAD", "sleep(-1, 0, 0) = BAD", "sleep(least, 0, 0) = BAD", "sleep(most, 0, 0) = BAD");
    }

    private static void promise28From0To10Of10() {
        Story.due("tell [0;50.0;p1] = 1", "sleep(0, 0, 0) = 1", "sleep(0, 0, 1) = 1", "sleep(0, 10, 0) = 0", "sleep(0, 10, 1) = 1",
                "sleep(0, 9, 0) = 1", "sleep(0, 9, 1) = 10", "sleep(0, 1, 0) = 9", "sleep(0, 1, 1) = 10", "sleep(0, -1, 0) = BAD",
                "sleep(0, 11, 0) = BAD", "sleep(0, least, 0) = BAD", "sleep(0, most, 0) = BAD");
        Story.rich("sleep(0, -1, 0) = BAD", "sleep(0, 11, 0) = BAD");
    }

    private static void promise28What0To1() {
        Story.rich("sleep(1, 5, 0) = 1", "sleep(1, 5, 1) = 2", "sleep(1, 5, -1) = BAD", "sleep(1, 5, 2) = BAD", "sleep(1, 5, least) = BAD",
                "sleep(1, 5, most) = BAD");
    }

    private static void promise28InLowestTerms() {
        Story.due("tell [0;50.0;p1] = 1", "sleep(0, 2, 0) = 4", "sleep(0, 2, 1) = 5", "sleep(0, 4, 0) = 3", "sleep(0, 4, 1) = 5",
                "sleep(0, 5, 0) = 1", "sleep(0, 5, 1) = 2", "sleep(0, 8, 0) = 1", "sleep(0, 8, 1) = 5", "tell [0;50.0;p1,p1] = 1",
                "sleep(0, 5, 0) = 3", "sleep(0, 5, 1) = 4", "sleep(0, 2, 0) = 24", "sleep(0, 2, 1) = 25");
    }

    private static void promise28NeverIs0Of1() {
        Story.due("tell [0;50.0,50.9!!!;y1] = 2", "sleep(0, 0, 0) = 0", "sleep(0, 0, 1) = 1", "sleep(0, 5, 0) = 0", "sleep(0, 5, 1) = 1",
                "sleep(1, 5, 0) = 0", "sleep(1, 5, 1) = 1", "tell [0;50.0] = 1", "sleep(0, 5, 0) = 0", "sleep(0, 5, 1) = 1",
                "tell [0;0.0;p1] = 1", "sleep(0, 0, 0) = 0", "sleep(0, 0, 1) = 1");
    }

    private static void promise28FiveHogsApart() {
        Story.due("tell [0;50.0;p1,p1,p1,p1,p1] = 1", "sleep(0, 9, 0) = 40951", "sleep(0, 9, 1) = 100000", "sleep(0, 1, 0) = 99999",
                "sleep(0, 1, 1) = 100000", "sleep(0, 0, 0) = 1", "sleep(0, 0, 1) = 1", "sleep(0, 10, 0) = 0", "sleep(0, 10, 1) = 1",
                "tell [0;50.4;p1,p1,p1,p1,p1] = 1", "sleep(0, 1, 0) = 59049", "sleep(0, 1, 1) = 100000", "sleep(0, 9, 0) = 1",
                "sleep(0, 9, 1) = 100000");
    }

    private static void promise28NotInWinter() {
        Story.due("tell [0;50.0,50.9] = 2", "nights(14) = 0", "hog(0, 1, 0) = 0", "sleep(0, 0, 0) = 1", "nights(1) = 0", "drive(0, 0) = 1",
                "sleep(0, 0, 0) = 0", "sleep(0, 0, 1) = 1", "nights(4) = 0", "sleep(0, 0, 0) = 0", "nights(1) = 0", "sleep(0, 0, 0) = 1");
    }

    private static void promise28ThirdLookAndNoFourth() {
        Story.due("tell [0;50.0!!;p1] = 1", "sleep(0, 3, 0) = 7", "sleep(0, 3, 1) = 10", "tell [0;50.0!!!;p1] = 1", "sleep(0, 3, 0) = 0",
                "sleep(0, 3, 1) = 1");
    }

    private static void promise28InThisNightAlone() {
        Story.due("tell [0;50.9,50.0;p1] = 2", "sleep(1, 0, 0) = 0", "sleep(0, 0, 0) = 0", "nights(1) = 0", "sleep(1, 0, 0) = 1");
    }

    // ---- 29: image

    private static void promise29OfNobody() {
        Story.due("image() = 1", "house(1, 1) = 0", "hog(0, 1, 0) = 0", "nights(3) = 0", "interest(9) = 5", "seed(9) = 1", "restore() = 1",
                "count(0) = 0", "count(1) = 0", "count(2) = 0", "count(3) = 5", "count(8) = 0", "seed(1) = 1", "house(1, 1) = 0");
    }

    private static void promise29OfSixHousesAndFiveHogs() {
        Story.due("tell [3;1.1!,2.2,3.3,4.4,5.5,6.6!!!;p1@5,g2@4,s3@3,f4@2,y5@1] = 6", "image() = 1", "tell [5;9.9] = 1", "restore() = 1",
                "count(0) = 6", "count(1) = 5", "count(3) = 3", "count(6) = 210", "of(0, 2) = 1", "of(5, 1) = 6", "of(5, 2) = 3",
                "at(0, 2) = 5", "at(4, 0) = 4", "at(4, 1) = 5", "at(4, 2) = 1");
    }

    private static void promise29TheLatestImageIsKept() {
        Story.due("house(1, 1) = 0", "image() = 1", "put(0, 2) = 1", "image() = 1", "put(0, 3) = 2", "restore() = 1", "of(0, 1) = 2",
                "restore() = 1", "of(0, 1) = 2");
    }

    private static void promise29IsNothingToBeUndone() {
        Story.due("house(1, 1) = 0", "image() = 1", "count(8) = 0", "undo() = NONE", "put(0, 2) = 1", "image() = 1", "count(8) = 1");
    }

    private static void promise29TheTapeAndTheSheetsAreNotKept() {
        Story.rich("image() = 1", "type('.') = 4", "drop(0) = 3", "sheet(3, 1, 4) = 4", "restore() = 1", "type('2') = 5", "drop(0) = NULL",
                "drop(3) = 4", "drop(1) = 2", "read() = 1", "of(0, 1) = 2");
    }

    // ---- 30: restore

    private static void promise30NoneIfThereIsNone() {
        Story.due("restore() = NONE", "house(1, 1) = 0", "put(0, 2) = 1", "restore() = NONE", "image() = 1", "restore() = 1");
    }

    private static void promise30AllIsAsItWasThen() {
        Story.rich("image() = 1", "nights(9) = 2", "pay(0, 9999) = 0", "house(5, 5) = 3", "hog(1, 1, 1) = 2", "interest(0) = 9",
                "drift(2) = 2", "restore() = 1", "of(0, 0) = 476", "of(1, 0) = 1084", "of(2, 0) = 56", "of(2, 1) = 11", "of(3, 0) = BAD",
                "at(0, 2) = 1", "at(1, 2) = 2", "at(2, 0) = BAD", "count(2) = 3", "count(3) = 9", "count(4) = 20", "count(8) = 7",
                "seed(1) = 1103527590");
    }

    private static void promise30WhatMayBeUndoneIsAsItWasThen() {
        Story.due("house(1, 1) = 0", "nights(2) = 0", "put(0, 2) = 1", "put(0, 3) = 2", "put(0, 4) = 3", "put(0, 5) = 4", "put(0, 6) = 5",
                "put(0, 7) = 6", "put(0, 8) = 7", "count(8) = 8", "image() = 1", "undo() = 7", "undo() = 6", "nights(9) = 0", "house(1, 1) = 1",
                "count(8) = 0", "restore() = 1", "count(8) = 8", "of(0, 1) = 8", "undo() = 7", "of(0, 1) = 7", "undo() = 6", "undo() = 5",
                "undo() = 4", "undo() = 3", "undo() = 2", "undo() = 1", "of(0, 1) = 1", "count(2) = 2", "undo() = 0", "count(2) = 1",
                "undo() = NONE", "restore() = 1", "count(8) = 8");
    }

    private static void promise30FromTheLastNightBack() {
        Story.due("house(1, 1) = 0", "image() = 1", "249 times nights(40) = 0", "nights(39) = 0", "nights(1) = FULL", "restore() = 1",
                "count(2) = 0", "nights(40) = 0", "count(2) = 40");
    }

    private static void promise30AgainAndAgain() {
        Story.rich("restore() = 1", "count(8) = 1", "nights(5) = 2", "undo() = 5", "interest(0) = 7", "restore() = 1", "count(2) = 0",
                "count(3) = 7", "count(8) = 1", "of(0, 1) = 8", "of(1, 2) = 1", "undo() = 0", "of(0, 1) = 6", "restore() = 1", "of(0, 1) = 8");
    }

    private static void promise30IsNothingToBeUndone() {
        Story.due("house(1, 1) = 0", "image() = 1", "put(0, 2) = 1", "put(0, 3) = 2", "restore() = 1", "count(8) = 0", "undo() = NONE",
                "of(0, 1) = 1");
    }
}
