/** Promise 8: each sentence of the TEXT of a LANE that names a boundary case, by a test of its own. */
public final class EdgesTextTest {
    public static void main(String[] args) throws IllegalAccessException {
        Story.runAll(EdgesTextTest.class, 8);
    }

    // ---- what a LANE is

    private static void promise8InterestFrom0To20() {
        Story.texts("tell [0;1.1] = 1", "tell [20;1.1] = 1", "tell [21;1.1] = -20", "tell [99;1.1] = -20");
        Story.due("tell [0;1.1] = 1", "count(3) = 0", "tell [20;1.1] = 1", "count(3) = 20", "tell [21;1.1] = -20", "count(3) = 20");
    }

    private static void promise8SemicolonBehindInterest() {
        Story.texts("tell [5] = -21", "tell [5.] = -21", "tell [5,1.1] = -21", "tell [5:1.1] = -21", "tell [5 1.1] = -22",
                "tell [5;;1.1] = -22");
    }

    private static void promise8OneToSixHouses() {
        Story.texts("tell [5;] = -22", "tell [5;;p1] = -22", "tell [5;1.1] = 1", "tell [5;1.1,1.1] = 2",
                "tell [5;1.1,1.1,1.1,1.1,1.1,1.1] = 6", "tell [5;1.1,1.1,1.1,1.1,1.1,1.1,1.1] = -45",
                "tell [5;1.1,1.1,1.1,1.1,1.1,1.1,] = -45", "tell [5;1.1,1.1,1.1,1.1,1.1,1.1 , 1.1] = -46");
    }

    private static void promise8CommaBetweenHouses() {
        Story.texts("tell [5;,1.1] = -22", "tell [5;1.1,] = -26", "tell [5;1.1,,1.1] = -26", "tell [5;1.1,;p1] = -26",
                "tell [5;1.1.1.1] = -25", "tell [5;1.1 1.1] = -26");
    }

    private static void promise8OwesTenTimesANumber0To99() {
        Story.texts("tell [5;0.1] = 1", "tell [5;99.1] = 1", "tell [5;100.1] = -24");
        Story.due("tell [5;0.1,9.1,10.1,99.1] = 4", "of(0, 0) = 0", "of(1, 0) = 90", "of(2, 0) = 100", "of(3, 0) = 990");
    }

    private static void promise8DotBehindWhatItOwes() {
        Story.texts("tell [5;9] = -23", "tell [5;9,1] = -23", "tell [5;9;p1] = -23", "tell [5;9!] = -23", "tell [5;9 3] = -24",
                "tell [5;9..3] = -24");
    }

    private static void promise8SaucerFrom0To20() {
        Story.texts("tell [5;1.0] = 1", "tell [5;1.20] = 1", "tell [5;1.21] = -24", "tell [5;1.99] = -24");
        Story.due("tell [5;1.0,1.20] = 2", "of(0, 1) = 0", "of(1, 1) = 20");
    }

    private static void promise8NoneToThreeLooks() {
        Story.texts("tell [5;1.1] = 1", "tell [5;1.1!] = 1", "tell [5;1.1!!] = 1", "tell [5;1.1!!!] = 1", "tell [5;1.1!!!!] = -28",
                "tell [5;1.1!!!!!] = -28", "tell [5;1.1! ! ! !] = -31", "tell [5;!1.1] = -22", "tell [5;1!.1] = -23",
                "tell [5;1.!1] = -24");
        Story.due("tell [5;1.1,1.1!,1.1!!,1.1!!!] = 4", "of(0, 2) = 0", "of(1, 2) = 1", "of(2, 2) = 2", "of(3, 2) = 3",
                "count(5) = 0b1000");
    }

    private static void promise8NoHogsOrOneToFive() {
        Story.texts("tell [5;1.1] = 1", "tell [5;1.1;] = -26", "tell [5;1.1;p1] = 1", "tell [5;1.1;p1,g2,s3,f4,y5] = 1",
                "tell [5;1.1;p1,p1,p1,p1,p1,p1] = -40", "tell [5;1.1;p1,p1,p1,p1,p1,] = -40",
                "tell [5;1.1;p1,p1,p1,p1,p1@0,p1] = -42");
        Story.due("tell [5;1.1;p1,g2,s3,f4,y5] = 1", "count(1) = 5", "tell [5;1.1] = 1", "count(1) = 0");
    }

    private static void promise8CommaBetweenHogs() {
        Story.texts("tell [5;1.1;,p1] = -26", "tell [5;1.1;p1,] = -29", "tell [5;1.1;p1,,p1] = -29", "tell [5;1.1;p1;p1] = -28",
                "tell [5;1.1;p1p1] = -28", "tell [5;1.1;p1 p1] = -29", "tell [5;1.1;p1@0p1] = -30");
    }

    private static void promise8FiveLettersAreKinds() {
        Story.texts("tell [5;1.1;q1] = -26", "tell [5;1.1;o1] = -26", "tell [5;1.1;P1] = -26", "tell [5;1.1;x1] = -26",
                "tell [5;1.1;z1] = -26", "tell [5;1.1;11] = -26", "tell [5;1.1;@1] = -26");
        Story.due("tell [5;1.1;p1,g1,s1,f1,y1] = 1", "at(0, 0) = 0", "at(1, 0) = 1", "at(2, 0) = 2", "at(3, 0) = 3", "at(4, 0) = 4");
    }

    private static void promise8HungryIsADigit1To9() {
        Story.texts("tell [5;1.1;p1] = 1", "tell [5;1.1;p9] = 1", "tell [5;1.1;p0] = -27", "tell [5;1.1;p/] = -27",
                "tell [5;1.1;p:] = -27", "tell [5;1.1;p@0] = -27", "tell [5;1.1;p10] = -28", "tell [5;1.1;p09] = -27",
                "tell [5;1.1;p99] = -28", "tell [5;1.1;p1 0] = -29");
        Story.due("tell [5;1.1;p1,p9] = 1", "at(0, 1) = 1", "at(1, 1) = 9");
    }

    private static void promise8ADigitOfAHouseThereIs() {
        Story.texts("tell [5;1.1;p1@0] = 1", "tell [5;1.1;p1@1] = -29", "tell [5;1.1,1.1;p1@1] = 2", "tell [5;1.1,1.1;p1@2] = -33",
                "tell [5;1.1,1.1,1.1,1.1,1.1,1.1;p1@5] = 6", "tell [5;1.1,1.1,1.1,1.1,1.1,1.1;p1@6] = -49",
                "tell [5;1.1,1.1,1.1,1.1,1.1,1.1;p1@9] = -49", "tell [5;1.1;p1@/] = -29", "tell [5;1.1;p1@:] = -29",
                "tell [5;1.1;p1@@0] = -29", "tell [5;1.1;p1@00] = -30", "tell [5;1.1;p1@0 0] = -31", "tell [5;1.1;p1@0@0] = -30");
    }

    private static void promise8ElseAHogIsAtHouse0() {
        Story.due("tell [5;1.1,1.1;g1@1] = 2", "at(0, 2) = 1", "tell [5;1.1,2.2;p1,g2@1,s3] = 2", "at(0, 2) = 0", "at(1, 2) = 1",
                "at(2, 2) = 0");
    }

    private static void promise8NothingMayFollow() {
        Story.texts("tell [5;1.1x] = -25", "tell [5;1.1.] = -25", "tell [5;1.1 x] = -26", "tell [5;1.1@0] = -25",
                "tell [5;1.1;p1!] = -28", "tell [5;1.1;p1x] = -28", "tell [5;1.1;p1@0x] = -30", "tell [5;1.1;p1@0;] = -30",
                "tell [5;1.1;p1@0!] = -30");
    }

    // ---- numbers

    private static void promise8NumbersHaveOneOrTwoDigits() {
        Story.texts("tell [0;0.0] = 1", "tell [00;00.00] = 1", "tell [05;09.03] = 1", "tell [000;1.1] = -22", "tell [005;1.1] = -22",
                "tell [100;1.1] = -22", "tell [5;000.1] = -24", "tell [5;100.1] = -24", "tell [5;999.1] = -24",
                "tell [5;1.000] = -26", "tell [5;1.100] = -26", "tell [5;1.200] = -26");
    }

    private static void promise8ANumberMustBeThere() {
        Story.texts("tell [;1.1] = -20", "tell [-1;1.1] = -20", "tell [+5;1.1] = -20", "tell [x;1.1] = -20", "tell [/;1.1] = -20",
                "tell [:;1.1] = -20", "tell [5;.1] = -22", "tell [5;-1.1] = -22", "tell [5;/.1] = -22", "tell [5;:.1] = -22",
                "tell [5;1.] = -24", "tell [5;1.,1.1] = -24", "tell [5;1.-1] = -24", "tell [5;1./] = -24", "tell [5;1.:] = -24");
    }

    private static void promise8ALetterBehindADigitIsNoDigit() {
        Story.texts("tell [5/;1.1] = -21", "tell [5:;1.1] = -21", "tell [5;1/.1] = -23", "tell [5;1:.1] = -23", "tell [5;1.1/] = -25",
                "tell [5;1.1:] = -25");
    }

    private static void promise8NotAsToldIsAFaultOfItsFirstDigit() {
        Story.texts("tell [21] = -20", "tell [ 21;1.1] = -21", "tell [  30  ;1.1] = -22", "tell [5;1. 21] = -25",
                "tell [5;1.21!] = -24", "tell [5;1.1,2.30] = -28", "tell [5;1.1,2.  99;p1] = -30");
    }

    // ---- blanks, the end

    private static void promise8BlanksCountForNothing() {
        Story.texts("tell [ 7 ; 40 . 6 , 90 . 3 ! ! ; p 4 , s 3 @ 1 ] = 2");
        Story.due("tell [ 7 ; 40 . 6 , 90 . 3 ! ! ; p 4 , s 3 @ 1 ] = 2", "count(3) = 7", "of(0, 0) = 400", "of(0, 1) = 6",
                "of(0, 2) = 0", "of(1, 0) = 900", "of(1, 1) = 3", "of(1, 2) = 2", "at(0, 0) = 0", "at(0, 1) = 4", "at(0, 2) = 0",
                "at(1, 0) = 2", "at(1, 1) = 3", "at(1, 2) = 1", "count(1) = 2");
    }

    private static void promise8BlanksEndANumber() {
        Story.texts("tell [2 0;1.1] = -22", "tell [2  1;1.1] = -23", "tell [5;4 0.6] = -24", "tell [5;4.1 2] = -26",
                "tell [5;4.2 1] = -26", "tell [5 ;4 .1 ] = 1");
    }

    private static void promise8AFaultBehindBlanksIsItsOwnPlace() {
        Story.texts("tell [   x] = -23", "tell [5   x] = -24", "tell [5;   x] = -25", "tell [5;9   x] = -26", "tell [5;9.   x] = -27",
                "tell [5;9.3   x] = -28", "tell [5;9.3;   x] = -29", "tell [5;9.3;p   x] = -30", "tell [5;9.3;p1   x] = -31",
                "tell [5;9.3;p1@   x] = -32", "tell [5;9.3;p1@   1] = -32", "tell [5;9.3;p   0] = -30");
    }

    private static void promise8TheEndIsHowManyThereAre() {
        Story.texts("tell [] = -20", "tell [5] = -21", "tell [5;] = -22", "tell [5;9] = -23", "tell [5;9.] = -24", "tell [5;9.3,] = -26",
                "tell [5;9.3!,] = -27", "tell [5;9.3;] = -26", "tell [5;9.3;p] = -27", "tell [5;9.3;p1@] = -29",
                "tell [5;9.3;p1,] = -29", "tell [5;9.3;p1@0,] = -31");
    }

    private static void promise8TheEndBehindBlanksCountsThem() {
        Story.texts("tell [ ] = -21", "tell [   ] = -23", "tell [5 ] = -22", "tell [5; ] = -23", "tell [5;9  ] = -25",
                "tell [5;9. ] = -25", "tell [5;9.3,  ] = -28", "tell [5;9.3; ] = -27", "tell [5;9.3;p ] = -28",
                "tell [5;9.3;p1@ ] = -30", "tell [5;9.3;p1, ] = -30");
    }

    private static void promise8TheFirstFaultIsTold() {
        Story.texts("tell [21;x] = -20", "tell [x;21] = -20", "tell [5x21] = -21", "tell [5;x.21] = -22", "tell [5;9.21,x] = -24",
                "tell [5;9.3,x;q] = -26", "tell [5;9.3;q0@9] = -26", "tell [5;9.3;p0@9] = -27", "tell [5;9.3;p1@9,q] = -29");
    }

    private static void promise8EightyLettersAreRead() {
        Story.due("tell [" + "5;9.3" + " ".repeat(74) + "!] = 1", "of(0, 2) = 1", "tell [" + "5;9.3" + " ".repeat(74) + "x] = -99",
                "tell [" + "5;9.3" + " ".repeat(74) + ";] = -100", "tell [" + " ".repeat(80) + "] = -100",
                "tell [" + " ".repeat(79) + "x] = -99");
    }

    // ---- what a LANE that is told does

    private static void promise8AnswersHowManyHouses() {
        Story.due("tell [5;1.1] = 1", "tell [5;1.1,1.1] = 2", "tell [5;1.1,1.1,1.1] = 3", "tell [5;1.1,1.1,1.1,1.1] = 4",
                "tell [5;1.1,1.1,1.1,1.1,1.1] = 5", "tell [5;1.1,1.1,1.1,1.1,1.1,1.1] = 6");
    }

    private static void promise8InPlaceOfAll() {
        Story.due("tell [9;9.9!,8.8!!,7.7!!!,6.6,5.5,4.4!!!;p1@5,g2@4,s3@3,f4@2,y5@1] = 6", "tell [3;2.1,1.2;f7] = 2",
                "count(0) = 2", "count(1) = 1", "count(3) = 3", "count(5) = 0", "count(6) = 30", "of(0, 0) = 20", "of(0, 1) = 1",
                "of(0, 2) = 0", "of(1, 0) = 10", "of(1, 1) = 2", "of(1, 2) = 0", "of(2, 0) = BAD", "at(0, 0) = 3", "at(0, 1) = 7",
                "at(0, 2) = 0", "at(1, 0) = BAD");
    }

    private static void promise8NightIs0Then() {
        Story.due("tell [9;9.9] = 1", "nights(17) = 0", "count(7) = 1", "tell [9;9.9] = 1", "count(2) = 0", "count(7) = 0");
    }

    private static void promise8EatenInAllIs0Then() {
        Story.due("tell [9;9.9;p1] = 1", "nights(7) = 0", "count(4) = 7", "tell [9;9.9;p1] = 1", "count(4) = 0", "nights(1) = 0",
                "count(4) = 1");
    }

    private static void promise8TheDrawStays() {
        Story.due("seed(77) = 1", "tell [9;9.9] = 1", "seed(0) = 77", "drift(1) = 0", "tell [9;9.9] = 1", "seed(most) = 12345",
                "tell [9;9.9] = 1", "seed(0) = most");
    }

    private static void promise8LeavesNothingToBeUndone() {
        Story.due("tell [9;9.9] = 1", "nights(3) = 0", "put(0, 1) = 9", "count(8) = 4", "tell [8;8.8] = 1", "count(8) = 0",
                "undo() = NONE", "of(0, 1) = 8", "put(0, 1) = 8", "count(8) = 1", "undo() = 0", "of(0, 1) = 8");
    }

    private static void promise8TheTapeIsEmptyThen() {
        Story.due("tell [5;1.1] = 1", "read() = -20", "count(0) = 1", "type('5') = 1", "read() = -21", "type('5') = 1");
    }

    private static void promise8ReadsAllThatWasTyped() {
        Story.due("write [5;9] = 3", "house(1, 1) = 0", "nights(1) = 0", "write [.3,] = 6", "type(31) = BAD", "tell [1.2] = 2",
                "of(1, 1) = 2");
    }

    private static void promise8AFaultLeavesAllElse() {
        Story.rich("read() = -23", "count(8) = 7", "tell [5;1.1,2.2!!;p9,y1@1,x] = -40", "count(0) = 3", "count(1) = 2",
                "count(8) = 7", "undo() = 6", "of(1, 2) = 0");
    }

    private static void promise8LeavesTheImageAndTheSheets() {
        Story.rich("read() = -23", "tell [5;1.1] = 1", "drop(0) = 3", "drop(1) = 2", "drop(2) = 0", "drop(3) = NULL", "restore() = 1",
                "count(0) = 3", "of(0, 1) = 8", "undo() = 0", "of(0, 1) = 6");
    }
}
