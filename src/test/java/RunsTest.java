/** Long runs, worked out by hand, in which the calls of all promises follow each other on one object. */
public final class RunsTest {
    public static void main(String[] args) throws IllegalAccessException {
        Story.runAll(RunsTest.class);
    }

    /*
     * Three houses, a PLAIN hog hungry by 5 at house 0, a GREEDY one hungry by 4 at house 1, interest 10:
     *
     *   night   owed            looks   hogs   eaten
     *   0       200 300 50      0 0 0   0 1    0
     *   1       214 325 55      0 0 0   1 1    9       5 of 6, 4 of 4
     *   2       235 353 60      0 2 0   2 2    13      4 of 4 and 0 at house 1: two looks
     *   3       258 388 56      0 2 0   0 2    22      5 and 4 of 9
     *   4       278 426 57      0 2 0   1 2    31      5 of 6, 4 of 9
     *   5       305 422 58      0 3 0   2 2    39      4 of 4: a look, and house 1 is lost
     */
    private static void runThatUsesEveryCall() {
        Story.due("restore() = NONE", "undo() = NONE", "house(1, 1) = 0", "visits(1, 1) = 0",
                "tell [10;20.6,30.4,5.9;p5,g4@1] = 3",
                "of(0, 0) = 200", "of(1, 1) = 4", "at(1, 3) = 4", "count(6) = 550", "lost(1) = 5", "keep(1, 5) = 5",
                "nights(2) = 0", "of(1, 2) = 2", "count(4) = 13", "count(6) = 648", "count(8) = 2",
                "ahead(1, 3, 1) = 3", "ahead(1, 3, 0) = 422", "where(0, 3) = 2", "where(0, 2) = 1", "then(3, 0) = 0b010",
                "then(3, 1) = 39", "lost(1) = 3", "of(1, 3) = 0",
                "undo() = 1", "of(1, 0) = 325", "of(1, 4) = 0b11", "image() = 1",
                // Night 1 again, but house 1 puts out enough for both: 325 less 9, and 31 more.
                "put(1, 9) = 4", "nights(1) = 0", "of(1, 0) = 347", "of(1, 2) = 0", "at(0, 2) = 2", "at(1, 2) = 1", "count(4) = 18",
                "interest(0) = 10", "pay(2, 60) = 0", "pay(2, 1) = NOT", "free(2) = 0", "drive(0, 1) = 2", "drive(0, 1) = NOT",
                "nights(1) = 0", "of(1, 0) = 338", "count(4) = 27", "count(8) = 6", "solvent(1, 3) = 1",
                // 3 becomes 1163074432: by 65536 and by 3, house 2; by 128 and by 21, a saucer of 8.
                "seed(3) = 1", "drift(1) = 0", "of(2, 1) = 8", "at(0, 2) = 0", "of(1, 0) = 334", "count(4) = 36", "forgive(0) = NOT",
                "undo() = 6", "of(2, 1) = 9", "seed(3) = 3", "count(3) = 0", "at(0, 2) = 2",
                "hog(4, 9, 2) = 2", "count(8) = 0", "undo() = NONE", "of(2, 4) = 0b101", "at(2, 3) = 4",
                "put(1, 3) = 9", "sleep(1, 2, 0) = 4", "sleep(1, 2, 1) = 5", "sleep(2, 2, 0) = 0", "sleep(2, 2, 1) = 1",
                "visits(2, 0) = 2", "visits(2, 1) = 3",
                "part(0, 1, -1) = 3", "part(0, 1, -2) = 573", "part(0, 1, 2) = 0", "part(4, 1, 1) = 4", "part(4, 1, -2) = 569",
                "part(5, 1, 0) = 0", "part(5, 1, 1) = 4", "part(5, 1, 2) = 1", "part(5, 1, 3) = NONE",
                "drives(1, 1, 0) = 10", "drives(1, 1, 1) = 0", "keep(1, 1) = 0", "nights(1) = 0", "of(1, 2) = 1", "forgive(1) = 1",
                "of(1, 2) = 0", "write [9;] = 2", "sheet(0, 0, 4) = 4", "item(0, 0, 0, 265) = 1",
                // As it was behind the first undoing; the tape and the sheets stay.
                "restore() = 1", "count(1) = 2", "count(2) = 1", "count(3) = 10", "count(8) = 1", "of(1, 0) = 325", "of(1, 1) = 4",
                "seed(1) = 1", "type('1') = 3", "read() = -23",
                "dawns(0, 1, 0, 0, 1, 1, 0) = 0b11111", "dawns(0, 2, 0, 0, 0, 1, 0) = 0b11111", "dawns(0, 2, 0, 0, 0, 2, 0) = 0b01111",
                "dawns(0, 2, 0, 0, 0, 2, 1) = 0b1111100000", "dawns(0, 2, 0, 1, 0, 2, 1) = CAST", "dawns(0, 2, 0, 0, 3, 2, 1) = INDEX",
                "copy(0, 0, 0, 2, 2) = 2", "sheets [0: 9 0 9 0 | - | - | -]", "film(0, 1, 0, 0, 3) = 1", "sheets [0: 9 0 9 ? | - | - | -]",
                "drop(0) = 4", "drop(0) = NULL", "undo() = 0", "of(0, 0) = 200", "at(0, 2) = 0", "count(4) = 0", "count(2) = 0");
    }

    /*
     * One house that owes 100 and puts out 3, a PLAIN hog hungry by 4 that can't leave, interest 20: 3 eaten and a look each
     * night (97 + 19 = 116, 113 + 22 = 135, 132): lost behind 3 nights, and nothing is done until it is forgiven.
     */
    private static void runThroughAWinter() {
        Story.due("house(100, 3) = 0", "hog(0, 4, 0) = 0", "interest(20) = 5", "lost(0) = 3", "then(3, 1) = 9", "nights(15) = 1",
                "of(0, 0) = 132", "count(7) = 1", "count(8) = 8", "forgive(0) = 3", "image() = 1", "nights(5) = 0", "of(0, 0) = 132",
                "count(7) = 0", "count(4) = 9",
                // In spring: 132 less 3, and 25 more; the look is the first one again.
                "nights(1) = 0", "of(0, 0) = 154", "of(0, 2) = 1", "undo() = 7", "undo() = 6", "count(2) = 19", "count(7) = 1",
                "sleep(0, 0, 0) = 0", "sleep(0, 0, 1) = 1", "keep(0, 3) = 0", "lost(0) = 4", "visits(1, 1) = 0", "visits(2, 1) = 1",
                "ahead(0, 1, 0) = 132", "ahead(0, 2, 0) = 154", "put(0, 4) = 3", "lost(0) = NONE", "solvent(0, 2) = 3",
                "sheet(3, 3, 2) = 2", "dawns(0, 0, 3, 3, 0, 2, 1) = 0b1111110000", "dawns(0, 0, 3, 3, 0, 2, 0) = 0b01111",
                "undo() = 6", "dawns(0, 0, 3, 3, 0, 2, 1) = 0b1111111000",
                // 1 becomes 1103527590: by 128 and by 21, a saucer of 11, though it is winter.
                "drift(1) = 0", "of(0, 1) = 11", "of(0, 0) = 132", "count(2) = 20", "count(8) = 7", "pay(0, 131) = 1",
                "free(0) = 1", "nights(1) = 0", "of(0, 0) = 0", "of(0, 2) = 0", "count(4) = 13", "put(0, 0) = 11", "nights(1) = 0",
                "of(0, 2) = 0", "lost(0) = NONE", "restore() = 1", "count(8) = 8", "of(0, 1) = 3", "of(0, 0) = 132", "count(2) = 15",
                "undo() = 7", "of(0, 2) = 3", "7 times nights(1) = 1", "seed(1) = 1", "drop(3) = 2");
    }

    /** Lanes told one behind another: what was to be undone is gone, but THE DRAW, the image and the sheets stay. */
    private static void runThroughManyLanes() {
        Story.due("tell [0;10.5;p5] = 1", "nights(2) = 0", "count(6) = 90", "seed(12345) = 1", "image() = 1", "sheet(1, 1, 1) = 1",
                "item(1, 1, 0, 4) = 1", "tell [3;1.1,2.2!!;y2@1,f9] = 2", "count(8) = 0", "undo() = NONE", "count(2) = 0", "count(3) = 3",
                "count(4) = 0", "count(6) = 30", "seed(12345) = 12345", "at(0, 2) = 1", "at(1, 3) = 18",
                // The FAT one had 1 of 18 at house 0 and goes on to house 1, which the YOUNG one left for house 0.
                "nights(1) = 0", "of(0, 0) = 9", "of(0, 2) = 1", "of(1, 0) = 19", "of(0, 4) = 0b01", "of(1, 4) = 0b10",
                "nights(1) = 2", "of(1, 3) = 1", "of(1, 0) = 17", "of(0, 0) = 8", "of(0, 4) = 0b10", "count(8) = 2", "count(5) = 0b10",
                "tell [3;1.1,2.2!!;y2@2] = -35", "count(8) = 2", "count(5) = 0b10", "tell [21;1.1] = -20", "undo() = 1", "count(5) = 0",
                "house(9999, 0) = 2", "undo() = NONE", "of(2, 0) = 9999", "restore() = 1", "count(0) = 1", "count(6) = 90",
                "count(8) = 2", "seed(5) = 12345", "undo() = 1", "count(6) = 95", "seed(1) = 1", "dawns(0, 0, 1, 1, 0, 1, 1) = 2",
                "dawns(0, 0, 1, 1, 0, 1, 0) = 0", "put(0, 6) = 5", "dawns(0, 0, 1, 1, 0, 1, 0) = 0b10000", "sheets [- | 1: 4 | - | -]",
                "restore() = 1", "of(0, 1) = 5", "tell [] = -20", "tell [0;0.0] = 1", "count(1) = 0", "drives(0, 1, 0) = NONE",
                "free(0) = 0", "solvent(0, 40) = 20", "nights(40) = 0", "undo() = 7");
    }
}
