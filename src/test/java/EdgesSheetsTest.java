/** Promises 31 to 36: each sentence that names a boundary case, by a test of its own. */
public final class EdgesSheetsTest {
    private static final String RICH_SHEETS = "sheets [0: 7 0 9 | 2: 0 20 | 3: | -]";

    public static void main(String[] args) throws IllegalAccessException {
        Story.runAll(EdgesSheetsTest.class, 31, 32, 33, 34, 35, 36);
    }

    // ---- 31: dawns

    private static void promise31OfAHogThereIs() {
        Story.due("sheet(0, 0, 1) = 1", "dawns(0, 0, 0, 0, 0, 1, 0) = BAD", "tell [0;0.0;p1,p1,p1,p1,p1] = 1",
                "dawns(4, 0, 0, 0, 0, 1, 0) = 31", "dawns(5, 0, 0, 0, 0, 1, 0) = BAD");
        Story.rich("dawns(1, 0, 0, 0, 0, 1, 0) = 0", "dawns(2, 0, 0, 0, 0, 1, 0) = BAD", "dawns(-1, 0, 0, 0, 0, 1, 0) = BAD",
                "dawns(least, 0, 0, 0, 0, 1, 0) = BAD", "dawns(most, 0, 0, 0, 0, 1, 0) = BAD");
    }

    private static void promise31OfAHouseThereIs() {
        Story.due("sheet(0, 0, 1) = 1", "tell [0;0.0,0.0,0.0,0.0,0.0,0.0;p1] = 6", "dawns(0, 5, 0, 0, 0, 1, 0) = 31",
                "dawns(0, 6, 0, 0, 0, 1, 0) = BAD");
        Story.rich("dawns(0, 2, 0, 0, 0, 1, 0) = 0", "dawns(0, 3, 0, 0, 0, 1, 0) = BAD", "dawns(0, -1, 0, 0, 0, 1, 0) = BAD",
                "dawns(0, least, 0, 0, 0, 1, 0) = BAD", "dawns(0, most, 0, 0, 0, 1, 0) = BAD");
    }

    private static void promise31Sheets0To3() {
        Story.rich("dawns(0, 0, 0, 0, 0, 1, 0) = 0", "sheet(3, 0, 1) = 1", "dawns(0, 0, 3, 0, 0, 1, 0) = 0",
                "dawns(0, 0, -1, 0, 0, 1, 0) = BAD", "dawns(0, 0, 4, 0, 0, 1, 0) = BAD", "dawns(0, 0, least, 0, 0, 1, 0) = BAD",
                "dawns(0, 0, most, 0, 0, 1, 0) = BAD");
    }

    private static void promise31Lanes0To3() {
        Story.rich("dawns(0, 0, 0, 0, 0, 1, 0) = 0", "sheet(3, 3, 1) = 1", "dawns(0, 0, 3, 3, 0, 1, 0) = 0",
                "dawns(0, 0, 0, -1, 0, 1, 0) = BAD", "dawns(0, 0, 0, 4, 0, 1, 0) = BAD", "dawns(0, 0, 0, least, 0, 1, 0) = BAD",
                "dawns(0, 0, 0, most, 0, 1, 0) = BAD");
    }

    private static void promise31Of1To8Nights() {
        Story.due("tell [0;0.0;p1] = 1", "sheet(0, 2, 24) = 24", "dawns(0, 0, 0, 2, 0, 1, 0) = 31", "dawns(0, 0, 0, 2, 0, 8, 0) = 31",
                "dawns(0, 0, 0, 2, 0, 0, 0) = BAD", "dawns(0, 0, 0, 2, 0, -1, 0) = BAD", "dawns(0, 0, 0, 2, 0, 9, 0) = BAD",
                "dawns(0, 0, 0, 2, 0, least, 0) = BAD", "dawns(0, 0, 0, 2, 0, most, 0) = BAD");
    }

    private static void promise31What0To1() {
        Story.rich("dawns(0, 1, 1, 2, 0, 1, 0) = 15", "dawns(0, 1, 1, 2, 0, 1, 1) = 1016", "dawns(0, 1, 1, 2, 0, 1, -1) = BAD",
                "dawns(0, 1, 1, 2, 0, 1, 2) = BAD", "dawns(0, 1, 1, 2, 0, 1, least) = BAD", "dawns(0, 1, 1, 2, 0, 1, most) = BAD");
    }

    private static void promise31BadAheadOfNull() {
        Story.rich("dawns(2, 0, 3, 0, 0, 1, 0) = BAD", "dawns(0, 3, 3, 0, 0, 1, 0) = BAD", "dawns(0, 0, 3, 4, 0, 1, 0) = BAD",
                "dawns(0, 0, 3, 0, 0, 9, 0) = BAD", "dawns(0, 0, 3, 0, 0, 1, 2) = BAD", "dawns(0, 0, 3, 0, 0, 1, 0) = NULL");
    }

    private static void promise31NullAheadOfIndex() {
        Story.rich("dawns(0, 0, 3, 0, -1, 1, 0) = NULL", "dawns(0, 0, 3, 3, 99, 8, 0) = NULL");
    }

    private static void promise31CastAheadOfIndex() {
        Story.rich("dawns(0, 0, 0, 1, 0, 1, 0) = CAST", "dawns(0, 0, 0, 2, 99, 1, 0) = CAST", "dawns(0, 0, 1, 3, -1, 1, 0) = CAST",
                "dawns(0, 0, 2, 0, 0, 1, 0) = CAST", "dawns(0, 0, 2, 3, 0, 1, 0) = INDEX");
    }

    private static void promise31IndexOutsideTheRow() {
        Story.due("tell [0;0.0;p1] = 1", "sheet(0, 2, 24) = 24", "dawns(0, 0, 0, 2, 23, 1, 0) = 31", "dawns(0, 0, 0, 2, 24, 1, 0) = INDEX",
                "dawns(0, 0, 0, 2, 16, 8, 0) = 31", "dawns(0, 0, 0, 2, 17, 8, 0) = INDEX", "dawns(0, 0, 0, 2, -1, 1, 0) = INDEX",
                "dawns(0, 0, 0, 2, -8, 8, 0) = INDEX", "dawns(0, 0, 0, 2, most, 8, 0) = INDEX", "dawns(0, 0, 0, 2, least, 8, 0) = INDEX",
                "sheet(0, 2, 7) = 7", "dawns(0, 0, 0, 2, 0, 7, 0) = 31", "dawns(0, 0, 0, 2, 0, 8, 0) = INDEX", "sheet(0, 2, 0) = 0",
                "dawns(0, 0, 0, 2, 0, 1, 0) = INDEX");
    }

    private static void promise31FromItemIOn() {
        Story.due("tell [0;50.9;p6] = 1", "sheet(0, 1, 3) = 3", "item(0, 1, 0, 9) = 1", "item(0, 1, 1, 3) = 1", "item(0, 1, 2, 6) = 1",
                "dawns(0, 0, 0, 1, 0, 1, 0) = 0", "dawns(0, 0, 0, 1, 1, 1, 0) = 7", "dawns(0, 0, 0, 1, 2, 1, 0) = 16",
                "dawns(0, 0, 0, 1, 1, 2, 0) = 0");
    }

    private static void promise31KindsNoneToAll() {
        Story.due("tell [0;50.9;p6] = 1", "sheet(0, 0, 1) = 1", "dawns(0, 0, 0, 0, 0, 1, 0) = 8", "item(0, 0, 0, 3) = 1",
                "dawns(0, 0, 0, 0, 0, 1, 0) = 7", "item(0, 0, 0, 6) = 1", "dawns(0, 0, 0, 0, 0, 1, 0) = 16", "item(0, 0, 0, 1) = 1",
                "dawns(0, 0, 0, 0, 0, 1, 0) = 0", "item(0, 0, 0, 0) = 1", "put(0, 2) = 9", "dawns(0, 0, 0, 0, 0, 1, 0) = 31");
    }

    private static void promise31HungryFrom1To9() {
        Story.due("tell [0;50.10;p6] = 1", "sheet(0, 0, 1) = 1", "dawns(0, 0, 0, 0, 0, 1, 1) = 0", "item(0, 0, 0, 1) = 1",
                "dawns(0, 0, 0, 0, 0, 1, 1) = 512", "item(0, 0, 0, 9) = 1", "dawns(0, 0, 0, 0, 0, 1, 1) = 2", "item(0, 0, 0, 10) = 1",
                "dawns(0, 0, 0, 0, 0, 1, 1) = 0", "item(0, 0, 0, 0) = 1", "put(0, 1) = 10", "dawns(0, 0, 0, 0, 0, 1, 1) = 1022");
    }

    private static void promise31NothingIsBelow0OrAboveTheSaucer() {
        Story.due("tell [0;50.20;y1] = 1", "sheet(0, 2, 3) = 3", "item(0, 2, 0, -1) = 1", "item(0, 2, 1, 20) = 1", "item(0, 2, 2, 21) = 1",
                "dawns(0, 0, 0, 2, 0, 1, 0) = 0", "dawns(0, 0, 0, 2, 1, 1, 0) = 16", "dawns(0, 0, 0, 2, 2, 1, 0) = 0",
                "dawns(0, 0, 0, 2, 0, 1, 1) = 0", "dawns(0, 0, 0, 2, 1, 1, 1) = 2", "dawns(0, 0, 0, 2, 2, 1, 1) = 0");
    }

    private static void promise31NothingIsLeftInWinter() {
        Story.due("tell [0;50.9] = 1", "nights(14) = 0", "hog(0, 6, 0) = 0", "sheet(0, 3, 8) = 8", "item(0, 3, 0, 3) = 1", "item(0, 3, 6, 3) = 1",
                "item(0, 3, 7, 3) = 1", "dawns(0, 0, 0, 3, 0, 8, 0) = 7", "dawns(0, 0, 0, 3, 0, 8, 1) = 64", "dawns(0, 0, 0, 3, 0, 6, 0) = 7",
                "nights(1) = 0", "dawns(0, 0, 0, 3, 1, 5, 0) = 31", "dawns(0, 0, 0, 3, 1, 5, 1) = 1022", "dawns(0, 0, 0, 3, 0, 1, 0) = 0",
                "dawns(0, 0, 0, 3, 1, 7, 0) = 7");
    }

    private static void promise31NothingIsLeftIfItIsLostByThen() {
        Story.due("tell [0;50.9!!!;p6] = 1", "sheet(0, 0, 8) = 8", "dawns(0, 0, 0, 0, 0, 8, 0) = 31", "dawns(0, 0, 0, 0, 0, 8, 1) = 1022",
                "tell [0;9.3!!,0.0;p5] = 2", "dawns(0, 0, 0, 0, 0, 1, 1) = 1016", "dawns(0, 0, 0, 0, 0, 2, 1) = 1008",
                "dawns(0, 0, 0, 0, 0, 3, 1) = 1008");
    }

    private static void promise31EachOfTheNights() {
        Story.due("tell [0;50.9,50.9;p6] = 2", "sheet(0, 1, 8) = 8", "item(0, 1, 0, 9) = 1", "item(0, 1, 1, 3) = 1", "copy(0, 0, 0, 2, 2) = 2",
                "copy(0, 0, 0, 4, 4) = 4", "dawns(0, 1, 0, 1, 0, 8, 0) = 5", "dawns(0, 1, 0, 1, 0, 8, 1) = 64", "item(0, 1, 7, 4) = 1",
                "dawns(0, 1, 0, 1, 0, 8, 0) = 0", "dawns(0, 1, 0, 1, 0, 8, 1) = 0", "dawns(0, 1, 0, 1, 0, 7, 0) = 5", "item(0, 1, 7, 3) = 1",
                "item(0, 1, 0, 8) = 1", "dawns(0, 1, 0, 1, 0, 8, 0) = 0");
    }

    private static void promise31AllBitsOfAnItemCount() {
        Story.due("tell [0;0.0;p1] = 1", "sheet(0, 0, 1) = 1", "item(0, 0, 0, 256) = 1", "dawns(0, 0, 0, 0, 0, 1, 0) = 31", "sheet(1, 1, 1) = 1",
                "item(1, 1, 0, 256) = 1", "dawns(0, 0, 1, 1, 0, 1, 0) = 0", "sheet(2, 2, 1) = 1", "item(2, 2, 0, 65536) = 1",
                "dawns(0, 0, 2, 2, 0, 1, 0) = 0", "sheet(3, 3, 1) = 1", "item(3, 3, 0, 4294967296) = 1", "dawns(0, 0, 3, 3, 0, 1, 0) = 0",
                "item(3, 3, 0, -9223372036854775808) = 1", "dawns(0, 0, 3, 3, 0, 1, 0) = 0");
    }

    // ---- 32: film

    private static void promise32OfAHouseThereIs() {
        Story.due("sheet(0, 2, 1) = 1", "film(0, 1, 0, 2, 0) = BAD", "tell [0;1.1,1.1,1.1,1.1,1.1,1.1] = 6", "film(5, 1, 0, 2, 0) = 1",
                "film(6, 1, 0, 2, 0) = BAD");
        Story.rich("film(2, 1, 1, 2, 0) = 1", "film(3, 1, 1, 2, 0) = BAD", "film(-1, 1, 1, 2, 0) = BAD", "film(least, 1, 1, 2, 0) = BAD",
                "film(most, 1, 1, 2, 0) = BAD");
    }

    private static void promise32Of1To24Nights() {
        Story.due("tell [0;1.1] = 1", "sheet(0, 2, 24) = 24", "film(0, 1, 0, 2, 0) = 1",
                "sheets [2: 10 0 0 0 0 0 0 0 0 0 0 0 0 0 0 0 0 0 0 0 0 0 0 0 | - | - | -]", "film(0, 24, 0, 2, 0) = 24",
                "sheets [2: 10 10 10 10 10 10 10 10 10 10 10 10 10 10 10 10 10 10 10 10 10 10 10 10 | - | - | -]", "film(0, 0, 0, 2, 0) = BAD",
                "film(0, -1, 0, 2, 0) = BAD", "film(0, 25, 0, 2, 0) = BAD", "film(0, least, 0, 2, 0) = BAD", "film(0, most, 0, 2, 0) = BAD");
        Story.rich("film(0, 0, 0, 0, 0) = BAD", "film(0, 25, 0, 0, 0) = BAD");
    }

    private static void promise32Sheets0To3() {
        Story.rich("film(0, 1, 0, 0, 0) = 1", "sheet(3, 0, 1) = 1", "film(0, 1, 3, 0, 0) = 1", "film(0, 1, -1, 0, 0) = BAD",
                "film(0, 1, 4, 0, 0) = BAD", "film(0, 1, least, 0, 0) = BAD", "film(0, 1, most, 0, 0) = BAD");
    }

    private static void promise32Lanes0To3() {
        Story.rich("film(0, 1, 0, 0, 0) = 1", "sheet(3, 3, 1) = 1", "film(0, 1, 3, 3, 0) = 1", "film(0, 1, 0, -1, 0) = BAD",
                "film(0, 1, 0, 4, 0) = BAD", "film(0, 1, 0, least, 0) = BAD", "film(0, 1, 0, most, 0) = BAD");
    }

    private static void promise32BadAheadOfNull() {
        Story.rich("film(3, 1, 3, 0, 0) = BAD", "film(0, 25, 3, 0, 0) = BAD", "film(0, 1, 3, 4, 0) = BAD", "film(0, 1, 3, 0, 0) = NULL");
    }

    private static void promise32NullAheadOfIndex() {
        Story.rich("film(0, 24, 3, 0, -1) = NULL", "film(0, 1, 3, 3, 99) = NULL");
    }

    private static void promise32CastAheadOfIndex() {
        Story.rich("film(0, 1, 0, 1, 0) = CAST", "film(0, 24, 0, 2, 0) = CAST", "film(0, 1, 1, 3, -1) = CAST", "film(0, 1, 2, 0, 0) = CAST",
                "film(0, 1, 2, 3, 0) = INDEX");
    }

    private static void promise32IndexOutsideTheRow() {
        Story.rich("film(0, 3, 0, 0, 1) = INDEX", "film(0, 4, 0, 0, 0) = INDEX", "film(0, 1, 0, 0, 3) = INDEX", "film(0, 1, 0, 0, -1) = INDEX",
                "film(0, 3, 0, 0, -1) = INDEX", "film(0, 1, 0, 0, most) = INDEX", "film(0, 1, 0, 0, least) = INDEX",
                "film(0, 24, 0, 0, most) = INDEX", RICH_SHEETS, "film(0, 3, 0, 0, 0) = 3", "film(0, 1, 0, 0, 2) = 1");
        Story.due("tell [0;1.1] = 1", "sheet(0, 1, 24) = 24", "film(0, 24, 0, 1, 0) = 24", "film(0, 24, 0, 1, 1) = INDEX",
                "film(0, 1, 0, 1, 23) = 1", "film(0, 1, 0, 1, 24) = INDEX");
    }

    private static void promise32AnItemEachFromIOn() {
        Story.due("interest(10) = 5", "house(10, 0) = 0", "sheet(0, 2, 7) = 7", "item(0, 2, 1, 7) = 1", "item(0, 2, 6, 9) = 1",
                "film(0, 4, 0, 2, 2) = 4", "sheets [2: 0 7 11 12 13 14 9 | - | - | -]");
    }

    private static void promise32BehindNightsOfWinterAndALostHouse() {
        Story.due("tell [10;1.0,1.0!!!] = 2", "nights(13) = 2", "of(0, 0) = 26", "pay(0, 16) = 10", "sheet(0, 0, 9) = 9", "film(0, 9, 0, 0, 0) = 9",
                "sheets [0: 11 12 12 12 12 12 12 13 14 | - | - | -]", "film(1, 9, 0, 0, 0) = 9",
                "sheets [0: 10 10 10 10 10 10 10 10 10 | - | - | -]");
    }

    private static void promise32ItsLowestBits() {
        Story.due("interest(0) = 5", "house(256, 0) = 0", "house(255, 0) = 1", "house(276, 0) = 2", "house(9999, 0) = 3", "house(9984, 0) = 4",
                "sheet(0, 0, 5) = 5", "film(0, 1, 0, 0, 0) = 1", "film(1, 1, 0, 0, 1) = 1", "film(2, 1, 0, 0, 2) = 1",
                "film(3, 1, 0, 0, 3) = 1", "film(4, 1, 0, 0, 4) = 1", "sheets [0: 0 ? 20 15 0 | - | - | -]", "sheet(1, 1, 2) = 2",
                "film(0, 1, 1, 1, 0) = 1", "film(4, 1, 1, 1, 1) = 1", "sheets [0: 0 ? 20 15 0 | 1: ? ? | - | -]");
    }

    private static void promise32ChangesNothingElse() {
        Story.rich("film(0, 3, 0, 0, 0) = 3", "of(0, 0) = 476", "of(1, 0) = 1084", "of(2, 0) = 56", "at(0, 2) = 1", "at(1, 2) = 2", "count(2) = 3",
                "count(4) = 20", "count(8) = 7", "undo() = 6", "of(0, 0) = 449", "type('.') = 4");
    }

    // ---- 33: sheet

    private static void promise33Sheets0To3() {
        Story.due("sheet(0, 0, 1) = 1", "sheet(3, 0, 1) = 1", "sheet(-1, 0, 1) = BAD", "sheet(4, 0, 1) = BAD", "sheet(least, 0, 1) = BAD",
                "sheet(most, 0, 1) = BAD", "sheets [0: 0 | - | - | 0: 0]");
    }

    private static void promise33Lanes0To3() {
        Story.due("sheet(0, 0, 1) = 1", "sheet(1, 3, 1) = 1", "sheet(2, -1, 1) = BAD", "sheet(2, 4, 1) = BAD", "sheet(2, least, 1) = BAD",
                "sheet(2, most, 1) = BAD", "sheets [0: 0 | 3: 0 | - | -]");
    }

    private static void promise33Items0To24() {
        Story.due("sheet(0, 0, 0) = 0", "sheet(1, 1, 24) = 24", "sheet(2, 2, 25) = BAD", "sheet(2, 2, most) = BAD",
                "sheets [0: | 1: 0 0 0 0 0 0 0 0 0 0 0 0 0 0 0 0 0 0 0 0 0 0 0 0 | - | -]");
        Story.rich("sheet(0, 0, 25) = BAD", "sheet(0, 2, most) = BAD", RICH_SHEETS);
    }

    private static void promise33BelowNothingIsSize() {
        Story.rich("sheet(0, 0, -1) = SIZE", "sheet(1, 1, -25) = SIZE", "sheet(3, 0, -1) = SIZE", "sheet(0, 3, least) = SIZE", RICH_SHEETS);
    }

    private static void promise33BadAheadOfSize() {
        Story.rich("sheet(4, 0, -1) = BAD", "sheet(-1, 0, -1) = BAD", "sheet(0, 4, -1) = BAD", "sheet(0, -1, -1) = BAD",
                "sheet(0, 0, -1) = SIZE");
    }

    private static void promise33ANewRowHoldsNothingYet() {
        Story.due("sheet(0, 2, 3) = 3", "item(0, 2, 0, 7) = 1", "item(0, 2, 2, 9) = 1", "sheet(0, 2, 3) = 3", "sheets [2: 0 0 0 | - | - | -]",
                "item(0, 2, 0, 7) = 1", "item(0, 2, 2, 9) = 1", "sheet(0, 2, 1) = 1", "sheet(0, 2, 3) = 3", "sheets [2: 0 0 0 | - | - | -]",
                "item(0, 2, 2, 9) = 1", "drop(0) = 3", "sheet(0, 2, 3) = 3", "sheets [2: 0 0 0 | - | - | -]");
    }

    private static void promise33OfAnotherLaneThen() {
        Story.rich("sheet(0, 3, 1) = 1", "item(0, 0, 0, 1) = CAST", "item(0, 3, 1, 1) = INDEX", "item(0, 3, 0, 4) = 1",
                "sheets [3: 4 | 2: 0 20 | 3: | -]", "sheet(2, 0, 2) = 2", "sheets [3: 4 | 2: 0 20 | 0: 0 0 | -]");
    }

    // ---- 34: drop

    private static void promise34Sheets0To3() {
        Story.rich("drop(0) = 3", "drop(1) = 2", "drop(-1) = BAD", "drop(4) = BAD", "drop(least) = BAD", "drop(most) = BAD", "sheet(3, 1, 9) = 9",
                "drop(3) = 9", "sheets [- | - | 3: | -]");
    }

    private static void promise34NullIfItHoldsNothing() {
        Story.due("drop(0) = NULL", "sheet(0, 0, 1) = 1", "drop(0) = 1", "drop(0) = NULL", "drop(3) = NULL");
        Story.rich("drop(3) = NULL", "drop(2) = 0", "drop(2) = NULL");
    }

    private static void promise34From0To24Items() {
        Story.due("sheet(0, 0, 0) = 0", "sheet(1, 3, 24) = 24", "drop(0) = 0", "drop(1) = 24", "drop(0) = NULL", "drop(1) = NULL");
    }

    private static void promise34ItHoldsNothingThen() {
        Story.rich("drop(0) = 3", "item(0, 0, 0, 1) = NULL", "film(0, 1, 0, 0, 0) = NULL", "dawns(0, 0, 0, 0, 0, 1, 0) = NULL",
                "copy(0, 0, 1, 0, 0) = NULL", "sheets [- | 2: 0 20 | 3: | -]");
    }

    // ---- 35: item

    private static void promise35Sheets0To3() {
        Story.rich("item(0, 0, 0, 1) = 1", "sheet(3, 0, 1) = 1", "item(3, 0, 0, 2) = 1", "item(-1, 0, 0, 1) = BAD", "item(4, 0, 0, 1) = BAD",
                "item(least, 0, 0, 1) = BAD", "item(most, 0, 0, 1) = BAD", "sheets [0: 1 0 9 | 2: 0 20 | 3: | 0: 2]");
    }

    private static void promise35Lanes0To3() {
        Story.rich("item(0, -1, 0, 1) = BAD", "item(0, 4, 0, 1) = BAD", "item(0, least, 0, 1) = BAD", "item(0, most, 0, 1) = BAD", RICH_SHEETS);
    }

    private static void promise35BadAheadOfNull() {
        Story.rich("item(3, 4, 0, 1) = BAD", "item(3, -1, 99, 1) = BAD", "item(3, 0, 0, 1) = NULL");
    }

    private static void promise35NullAheadOfIndex() {
        Story.rich("item(3, 0, -1, 1) = NULL", "item(3, 3, 99, 1) = NULL");
    }

    private static void promise35CastOfAnyOtherLane() {
        Story.due("sheet(0, 0, 1) = 1", "sheet(1, 1, 1) = 1", "sheet(2, 2, 1) = 1", "sheet(3, 3, 1) = 1", "item(0, 1, 0, 1) = CAST",
                "item(0, 2, 0, 1) = CAST", "item(0, 3, 0, 1) = CAST", "item(1, 0, 0, 1) = CAST", "item(1, 2, 0, 1) = CAST",
                "item(1, 3, 0, 1) = CAST", "item(2, 0, 0, 1) = CAST", "item(2, 1, 0, 1) = CAST", "item(2, 3, 0, 1) = CAST",
                "item(3, 0, 0, 1) = CAST", "item(3, 1, 0, 1) = CAST", "item(3, 2, 0, 1) = CAST", "sheets [0: 0 | 1: 0 | 2: 0 | 3: 0]");
    }

    private static void promise35CastAheadOfIndex() {
        Story.rich("item(0, 1, 99, 1) = CAST", "item(1, 0, -1, 1) = CAST", "item(2, 0, 0, 1) = CAST", "item(2, 3, 0, 1) = INDEX");
    }

    private static void promise35IndexOutsideTheRow() {
        Story.rich("item(0, 0, 0, 1) = 1", "item(0, 0, 2, 2) = 1", "item(0, 0, -1, 3) = INDEX", "item(0, 0, 3, 3) = INDEX",
                "item(0, 0, least, 3) = INDEX", "item(0, 0, most, 3) = INDEX", "sheets [0: 1 0 2 | 2: 0 20 | 3: | -]");
        Story.due("sheet(0, 3, 24) = 24", "item(0, 3, 23, 1) = 1", "item(0, 3, 24, 1) = INDEX", "sheet(1, 3, 0) = 0", "item(1, 3, 0, 1) = INDEX");
    }

    private static void promise35LowestBitsOfBytes() {
        Story.due("sheet(0, 0, 8) = 8", "item(0, 0, 0, 127) = 1", "item(0, 0, 1, 128) = 1", "item(0, 0, 2, 255) = 1", "item(0, 0, 3, 256) = 1",
                "item(0, 0, 4, 276) = 1", "item(0, 0, 5, -236) = 1", "item(0, 0, 6, -1) = 1", "item(0, 0, 7, 9223372036854775572) = 1",
                "sheets [0: ? ? ? 0 20 20 ? 20 | - | - | -]");
    }

    private static void promise35LowestBitsOfShorts() {
        Story.due("sheet(0, 1, 6) = 6", "item(0, 1, 0, 276) = 1", "item(0, 1, 1, 65535) = 1", "item(0, 1, 2, 65536) = 1",
                "item(0, 1, 3, 65556) = 1", "item(0, 1, 4, -65516) = 1", "item(0, 1, 5, 32788) = 1", "sheets [1: ? ? 0 20 20 ? | - | - | -]");
    }

    private static void promise35LowestBitsOfInts() {
        Story.due("sheet(0, 2, 6) = 6", "item(0, 2, 0, 65556) = 1", "item(0, 2, 1, 4294967295) = 1", "item(0, 2, 2, 4294967296) = 1",
                "item(0, 2, 3, 4294967316) = 1", "item(0, 2, 4, -4294967276) = 1", "item(0, 2, 5, 2147483668) = 1",
                "sheets [2: ? ? 0 20 20 ? | - | - | -]");
    }

    private static void promise35AllBitsOfLongs() {
        Story.due("sheet(0, 3, 5) = 5", "item(0, 3, 0, 20) = 1", "item(0, 3, 1, 4294967296) = 1", "item(0, 3, 2, 4294967316) = 1",
                "item(0, 3, 3, 9223372036854775807) = 1", "item(0, 3, 4, -9223372036854775808) = 1", "sheets [3: 20 ? ? ? ? | - | - | -]");
    }

    // ---- 36: copy

    private static void promise36Sheets0To3() {
        Story.rich("copy(0, 0, 0, 0, 1) = 1", "sheet(3, 0, 1) = 1", "copy(0, 0, 3, 0, 1) = 1", "copy(3, 0, 0, 1, 1) = 1", "copy(-1, 0, 0, 0, 1) = BAD",
                "copy(4, 0, 0, 0, 1) = BAD", "copy(least, 0, 0, 0, 1) = BAD", "copy(most, 0, 0, 0, 1) = BAD", "copy(0, 0, -1, 0, 1) = BAD",
                "copy(0, 0, 4, 0, 1) = BAD", "copy(0, 0, least, 0, 1) = BAD", "copy(0, 0, most, 0, 1) = BAD",
                "sheets [0: 7 7 9 | 2: 0 20 | 3: | 0: 7]");
    }

    private static void promise36BadAheadOfNull() {
        Story.rich("copy(3, 0, 4, 0, 1) = BAD", "copy(4, 0, 3, 0, 1) = BAD", "copy(3, 0, -1, 0, -1) = BAD", "copy(3, 0, 3, 0, 1) = NULL");
    }

    private static void promise36NullOfEither() {
        Story.rich("copy(3, 0, 0, 0, 1) = NULL", "copy(0, 0, 3, 0, 1) = NULL", "copy(3, 0, 3, 0, 1) = NULL", "copy(3, 0, 0, 0, 0) = NULL",
                "copy(0, 0, 3, 0, 0) = NULL", RICH_SHEETS);
    }

    private static void promise36NullAheadOfIndex() {
        Story.rich("copy(3, -1, 0, 0, 1) = NULL", "copy(0, 99, 3, 0, 1) = NULL", "copy(0, 0, 3, 0, -1) = NULL");
    }

    private static void promise36CastOfUnlikeLanes() {
        Story.rich("copy(0, 0, 1, 0, 1) = CAST", "copy(1, 0, 0, 0, 1) = CAST", "copy(0, 0, 2, 0, 0) = CAST", "copy(2, 0, 1, 0, 0) = CAST", RICH_SHEETS);
        Story.due("sheet(0, 2, 1) = 1", "sheet(1, 2, 1) = 1", "item(0, 2, 0, 4) = 1", "copy(0, 0, 1, 0, 1) = 1", "sheets [2: 4 | 2: 4 | - | -]");
    }

    private static void promise36CastAheadOfIndex() {
        Story.rich("copy(0, 99, 1, 0, 1) = CAST", "copy(0, 0, 1, -1, 1) = CAST", "copy(0, 0, 1, 0, -1) = CAST", "copy(0, 0, 2, 0, 99) = CAST");
    }

    private static void promise36IndexOutsideTheRowItIsTakenFrom() {
        Story.rich("sheet(3, 0, 24) = 24", "copy(0, 0, 3, 0, 3) = 3", "copy(0, 0, 3, 0, 4) = INDEX", "copy(0, 2, 3, 0, 1) = 1",
                "copy(0, 3, 3, 0, 1) = INDEX", "copy(0, 2, 3, 0, 2) = INDEX", "copy(0, -1, 3, 0, 1) = INDEX", "copy(0, -1, 3, 0, 3) = INDEX",
                "copy(0, least, 3, 0, 1) = INDEX", "copy(0, most, 3, 0, 1) = INDEX", "copy(0, 1, 3, 0, most) = INDEX",
                "copy(0, most, 3, 0, most) = INDEX");
    }

    private static void promise36IndexOutsideTheRowItComesTo() {
        Story.rich("sheet(3, 0, 24) = 24", "copy(3, 0, 0, 0, 3) = 3", "copy(3, 0, 0, 0, 4) = INDEX", "copy(3, 0, 0, 2, 1) = 1",
                "copy(3, 0, 0, 3, 1) = INDEX", "copy(3, 0, 0, 2, 2) = INDEX", "copy(3, 0, 0, -1, 1) = INDEX", "copy(3, 0, 0, -1, 3) = INDEX",
                "copy(3, 0, 0, least, 1) = INDEX", "copy(3, 0, 0, most, 1) = INDEX", "copy(3, 0, 3, 1, 24) = INDEX");
    }

    private static void promise36BelowNothingIsIndex() {
        Story.rich("copy(0, 0, 0, 0, -1) = INDEX", "copy(0, 2, 0, 2, -1) = INDEX", "copy(0, 0, 0, 0, least) = INDEX");
    }

    private static void promise36NothingAtAllMayBeCopied() {
        Story.rich("copy(0, 0, 0, 0, 0) = 0", "copy(0, 3, 0, 3, 0) = 0", "copy(0, 4, 0, 0, 0) = INDEX", "copy(0, 0, 0, 4, 0) = INDEX",
                "copy(0, -1, 0, 0, 0) = INDEX", "copy(0, 0, 0, -1, 0) = INDEX", "copy(2, 0, 2, 0, 0) = 0", "copy(2, 1, 2, 0, 0) = INDEX",
                "copy(2, 0, 2, 0, 1) = INDEX", RICH_SHEETS);
    }

    private static void promise36AllOf24() {
        Story.due("sheet(0, 1, 24) = 24", "sheet(1, 1, 24) = 24", "item(0, 1, 0, 3) = 1", "item(0, 1, 23, 4) = 1", "copy(0, 0, 1, 0, 24) = 24",
                "copy(0, 0, 1, 0, 25) = INDEX",
                "sheets [1: 3 0 0 0 0 0 0 0 0 0 0 0 0 0 0 0 0 0 0 0 0 0 0 4 | 1: 3 0 0 0 0 0 0 0 0 0 0 0 0 0 0 0 0 0 0 0 0 0 0 4 | - | -]");
    }

    private static void promise36AsIfAllWereTakenAhead() {
        String[] row = {"sheet(0, 2, 5) = 5", "item(0, 2, 0, 1) = 1", "item(0, 2, 1, 2) = 1", "item(0, 2, 2, 3) = 1", "item(0, 2, 3, 4) = 1",
            "item(0, 2, 4, 5) = 1"};
        Story.due(row[0], row[1], row[2], row[3], row[4], row[5], "copy(0, 0, 0, 1, 4) = 4", "sheets [2: 1 1 2 3 4 | - | - | -]");
        Story.due(row[0], row[1], row[2], row[3], row[4], row[5], "copy(0, 1, 0, 0, 4) = 4", "sheets [2: 2 3 4 5 5 | - | - | -]");
        Story.due(row[0], row[1], row[2], row[3], row[4], row[5], "copy(0, 0, 0, 2, 3) = 3", "sheets [2: 1 2 1 2 3 | - | - | -]");
        Story.due(row[0], row[1], row[2], row[3], row[4], row[5], "copy(0, 0, 0, 0, 5) = 5", "sheets [2: 1 2 3 4 5 | - | - | -]");
    }

    private static void promise36LeavesWhatItWasTakenFrom() {
        Story.rich("sheet(3, 0, 2) = 2", "copy(0, 1, 3, 0, 2) = 2", "sheets [0: 7 0 9 | 2: 0 20 | 3: | 0: 0 9]", "item(3, 0, 0, 5) = 1",
                "sheets [0: 7 0 9 | 2: 0 20 | 3: | 0: 5 9]");
    }

    private static void promise36AllBitsComeAlong() {
        Story.due("sheet(0, 3, 1) = 1", "sheet(1, 3, 1) = 1", "item(0, 3, 0, 4294967316) = 1", "copy(0, 0, 1, 0, 1) = 1",
                "sheets [3: ? | 3: ? | - | -]");
    }
}
