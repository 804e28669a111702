/** Promises 31 to 36: dawns, films and sheets. */
public final class SheetsTest {
    private static final Check check = new Check();
    private static final int BYTES = 0, SHORTS = 1, INTS = 2, LONGS = 3;

    public static void main(String[] args) {
        promise31Dawns();
        promise31DawnsOverNights();
        promise31Refused();
        promise32Film();
        promise32Refused();
        promise33Sheet();
        promise34Drop();
        promise35Item();
        promise36Copy();
        promise36Refused();
        check.end();
    }

    /** A lane in which it can be seen what an item is: a hog that eats nothing leaves the saucer as it was. */
    private static HogMortgage reader() {
        return check.lane("0;0.0;y1");
    }

    private static void holds(HogMortgage x, int sheet, int lane, int i, int v) {
        x.put(0, v);
        check.due("sheet " + sheet + " holds " + v + " at " + i, x.dawns(0, 0, sheet, lane, i, 1, 0) & 16, 16);
    }

    private static void holdsRow(HogMortgage x, int sheet, int lane, int... row) {
        for (int i = 0; i < row.length; i++) {
            holds(x, sheet, lane, i, row[i]);
        }
    }

    private static void fill(HogMortgage x, int sheet, int lane, int... row) {
        x.sheet(sheet, lane, row.length);
        for (int i = 0; i < row.length; i++) {
            check.due("item", x.item(sheet, lane, i, row[i]), 1);
        }
    }

    private static void dawnsDue(String lane, int house, int[] row, int kinds, int hungry) {
        HogMortgage x = check.lane(lane);
        fill(x, 1, SHORTS, row);
        check.due(lane + ": kinds", x.dawns(0, house, 1, SHORTS, 0, row.length, 0), kinds);
        check.due(lane + ": how hungry", x.dawns(0, house, 1, SHORTS, 0, row.length, 1), hungry);
    }

    private static void promise31Dawns() {
        dawnsDue("0;50.9;p6", 0, new int[] {3}, 7, 1 << 6);
        dawnsDue("0;50.9;p6", 0, new int[] {6}, 16, 1 << 3);
        dawnsDue("0;50.9;p6", 0, new int[] {0}, 8, 1 << 9);
        dawnsDue("0;50.9;p6", 0, new int[] {-1}, 0, 0);
        dawnsDue("0;50.9;p6", 0, new int[] {9}, 0, 0);
        dawnsDue("0;50.20;f6", 0, new int[] {2}, 0, 1 << 9);
        dawnsDue("0;50.5;y5", 0, new int[] {3}, 16, 1 << 4 | 1 << 5);
        dawnsDue("0;50.5;y1", 0, new int[] {5}, 16, 1 << 1);
        dawnsDue("0;50.9!!!;p6", 0, new int[] {0, 0}, 31, 1022);
        dawnsDue("0;50.9!!!;p6", 0, new int[] {9}, 0, 0);
        dawnsDue("0;50.9,50.7;p6@1", 0, new int[] {9}, 31, 1022);
        // The first one leaves 4 for the second one, which would eat 6.
        dawnsDue("0;50.9;p5,p6", 0, new int[] {0}, 15, 1022 & ~(1 << 1 | 1 << 2));
    }

    private static void promise31DawnsOverNights() {
        dawnsDue("0;50.9,50.9;p6", 0, new int[] {3, 9}, 5, 1 << 6);
        dawnsDue("0;50.9,50.9;p6", 0, new int[] {3, 3}, 2, 0);
        dawnsDue("0;50.9,50.9;p6", 1, new int[] {9, 3, 9, 3, 9, 3, 9, 3}, 5, 1 << 6);
        HogMortgage x = check.lane("0;50.9;p6");
        x.nights(14);
        fill(x, 0, LONGS, 7, 3, 0, 0, 0, 0, 0, 3);
        check.due("winter: kinds", x.dawns(0, 0, 0, LONGS, 1, 7, 0), 7);
        check.due("winter: how hungry", x.dawns(0, 0, 0, LONGS, 1, 7, 1), 64);
        check.due("in winter all are alike", x.dawns(0, 0, 0, LONGS, 7, 1, 0), 7);
        x.nights(1);
        check.due("all kinds", x.dawns(0, 0, 0, LONGS, 2, 5, 0), 31);
        check.due("however hungry", x.dawns(0, 0, 0, LONGS, 2, 5, 1), 1022);
        check.due("nothing is put out in winter", x.dawns(0, 0, 0, LONGS, 1, 1, 0), 0);
        HogMortgage y = check.lane("0;9.3!!,0.0;p5");
        fill(y, 0, INTS, 0, 0, 0);
        check.due("lost by then", y.dawns(0, 0, 0, INTS, 0, 3, 1), 1 << 4 | 1 << 5 | 1 << 6 | 1 << 7 | 1 << 8 | 1 << 9);
    }

    private static void promise31Refused() {
        HogMortgage x = check.lane("0;50.9;p6");
        x.sheet(0, INTS, 8);
        int[][] bad = {{1, 0, 0, 2, 0, 1, 0}, {-1, 0, 0, 2, 0, 1, 0}, {0, 1, 0, 2, 0, 1, 0}, {0, -1, 0, 2, 0, 1, 0},
            {0, 0, 4, 2, 0, 1, 0}, {0, 0, -1, 2, 0, 1, 0}, {0, 0, 0, 4, 0, 1, 0}, {0, 0, 0, -1, 0, 1, 0},
            {0, 0, 0, 2, 0, 0, 0}, {0, 0, 0, 2, 0, 9, 0}, {0, 0, 0, 2, 0, 1, -1}, {0, 0, 0, 2, 0, 1, 2},
            {0, 0, 1, 2, 0, 1, 2}};
        for (int[] b : bad) {
            check.due("bad dawns", x.dawns(b[0], b[1], b[2], b[3], b[4], b[5], b[6]), HogMortgage.BAD);
        }
        check.due("null first", x.dawns(0, 0, 1, 2, 99, 8, 0), HogMortgage.NULL);
        check.due("cast next", x.dawns(0, 0, 0, 3, 99, 8, 0), HogMortgage.CAST);
        check.due("index next", x.dawns(0, 0, 0, 2, 1, 8, 0), HogMortgage.INDEX);
        check.due("index below 0", x.dawns(0, 0, 0, 2, -1, 1, 0), HogMortgage.INDEX);
        check.due("index far", x.dawns(0, 0, 0, 2, Integer.MAX_VALUE, 8, 0), HogMortgage.INDEX);
        check.due("index least", x.dawns(0, 0, 0, 2, Integer.MIN_VALUE, 8, 0), HogMortgage.INDEX);
        check.due("no index", x.dawns(0, 0, 0, 2, 0, 8, 0), 8);
    }

    private static void promise32Film() {
        HogMortgage y = check.lane("0;26.0,9.9;p6@1");
        y.sheet(0, BYTES, 24);
        y.sheet(1, SHORTS, 24);
        y.pay(0, 1);
        y.sheet(3, LONGS, 1);
        check.due("film to the last sheet", y.film(0, 1, 3, LONGS, 0), 1);
        check.due("film of 259 to bytes", y.film(0, 24, 0, BYTES, 0), 24);
        check.due("film of 259 to shorts", y.film(0, 24, 1, SHORTS, 0), 24);
        check.due("its lowest bits are 3", y.dawns(0, 1, 0, BYTES, 23, 1, 0), 7);
        check.due("all of them are not", y.dawns(0, 1, 1, SHORTS, 23, 1, 0), 0);
        HogMortgage z = new HogMortgage();
        z.interest(10);
        z.house(10, 0);
        z.house(0, 11);
        z.hog(4, 1, 1);
        z.sheet(0, INTS, 7);
        check.due("film", z.film(0, 4, 0, INTS, 2), 4);
        int[] want = {0, 0, 11, 12, 13, 14, 0};
        for (int i = 0; i < want.length; i++) {
            z.put(1, want[i]);
            check.due("a film's item " + i, z.dawns(0, 1, 0, INTS, i, 1, 0) & 16, 16);
        }
    }

    private static void promise32Refused() {
        HogMortgage x = reader();
        fill(x, 0, INTS, 1, 2, 3);
        int[][] bad = {{1, 1, 0, 2, 0}, {-1, 1, 0, 2, 0}, {0, 0, 0, 2, 0}, {0, 25, 0, 2, 0}, {0, 1, 4, 2, 0},
            {0, 1, -1, 2, 0}, {0, 1, 0, 4, 0}, {0, 1, 0, -1, 0}, {0, 25, 1, 2, 0}};
        for (int[] b : bad) {
            check.due("bad film", x.film(b[0], b[1], b[2], b[3], b[4]), HogMortgage.BAD);
        }
        check.due("null first", x.film(0, 24, 1, 2, 0), HogMortgage.NULL);
        check.due("cast next", x.film(0, 24, 0, 1, 0), HogMortgage.CAST);
        check.due("index next", x.film(0, 3, 0, 2, 1), HogMortgage.INDEX);
        check.due("index", x.film(0, 4, 0, 2, 0), HogMortgage.INDEX);
        check.due("index", x.film(0, 1, 0, 2, -1), HogMortgage.INDEX);
        check.due("index", x.film(0, 24, 0, 2, Integer.MAX_VALUE), HogMortgage.INDEX);
        holdsRow(x, 0, INTS, 1, 2, 3);
        check.due("as much as there is", x.film(0, 2, 0, 2, 1), 2);
        holdsRow(x, 0, INTS, 1, 0, 0);
    }

    private static void promise33Sheet() {
        HogMortgage x = reader();
        int[][] bad = {{-1, 0, 1}, {4, 0, 1}, {0, -1, 1}, {0, 4, 1}, {0, 0, 25}, {4, 0, -1}, {0, 4, -1},
            {0, 0, Integer.MAX_VALUE}};
        for (int[] b : bad) {
            check.due("bad sheet", x.sheet(b[0], b[1], b[2]), HogMortgage.BAD);
        }
        check.due("size", x.sheet(0, 0, -1), HogMortgage.SIZE);
        check.due("size", x.sheet(0, 0, Integer.MIN_VALUE), HogMortgage.SIZE);
        check.due("nothing there yet", x.drop(0), HogMortgage.NULL);
        check.due("sheet(3, 3, 24)", x.sheet(3, 3, 24), 24);
        check.due("sheet(2, 0, 0)", x.sheet(2, 0, 0), 0);
        check.due("no item there", x.item(2, 0, 0, 1), HogMortgage.INDEX);
        fill(x, 0, BYTES, 7, 7);
        check.due("size", x.sheet(0, 0, -1), HogMortgage.SIZE);
        holdsRow(x, 0, BYTES, 7, 7);
        check.due("a new row", x.sheet(0, BYTES, 3), 3);
        holdsRow(x, 0, BYTES, 0, 0, 0);
        check.due("of another lane", x.sheet(0, SHORTS, 3), 3);
        check.due("bytes no more", x.item(0, BYTES, 0, 1), HogMortgage.CAST);
    }

    private static void promise34Drop() {
        HogMortgage x = reader();
        check.due("drop(-1)", x.drop(-1), HogMortgage.BAD);
        check.due("drop(4)", x.drop(4), HogMortgage.BAD);
        check.due("drop(0)", x.drop(0), HogMortgage.NULL);
        x.sheet(0, 0, 24);
        x.sheet(1, 0, 0);
        check.due("drop of 24", x.drop(0), 24);
        check.due("drop of 24, again", x.drop(0), HogMortgage.NULL);
        check.due("drop of 0", x.drop(1), 0);
        check.due("drop of 0, again", x.drop(1), HogMortgage.NULL);
        check.due("item of nothing", x.item(0, 0, 0, 1), HogMortgage.NULL);
    }

    private static void promise35Item() {
        HogMortgage x = reader();
        for (int lane = 0; lane < 4; lane++) {
            x.sheet(lane, lane, 2);
            check.due("item", x.item(lane, lane, 1, 5), 1);
            holdsRow(x, lane, lane, 0, 5);
            long high = lane == 3 ? 0 : 1L << (8 << lane);
            check.due("item by its lowest bits", x.item(lane, lane, 0, high + 6), 1);
            holds(x, lane, lane, 0, 6);
            if (lane > 0) {
                x.item(lane, lane, 0, (1L << (4 << lane)) + 6);
                x.put(0, 6);
                check.due("all bits of lane " + lane, x.dawns(0, 0, lane, lane, 0, 1, 0) & 16, 0);
            }
        }
        int[][] bad = {{-1, 0, 0}, {4, 0, 0}, {0, -1, 0}, {0, 4, 0}};
        for (int[] b : bad) {
            check.due("bad item", x.item(b[0], b[1], b[2], 1), HogMortgage.BAD);
        }
        x.drop(1);
        check.due("null", x.item(1, 0, 9, 1), HogMortgage.NULL);
        check.due("cast", x.item(0, 1, 9, 1), HogMortgage.CAST);
        check.due("index", x.item(0, 0, 2, 1), HogMortgage.INDEX);
        check.due("index", x.item(0, 0, -1, 1), HogMortgage.INDEX);
        check.due("index", x.item(0, 0, Integer.MAX_VALUE, 1), HogMortgage.INDEX);
        check.due("index", x.item(0, 0, Integer.MIN_VALUE, 1), HogMortgage.INDEX);
        holdsRow(x, 0, 0, 6, 5);
    }

    private static void promise36Copy() {
        HogMortgage x = reader();
        fill(x, 0, INTS, 1, 2, 3, 4, 5);
        fill(x, 1, INTS, 11, 12, 13);
        check.due("copy", x.copy(0, 1, 1, 0, 2), 2);
        holdsRow(x, 1, INTS, 2, 3, 13);
        holdsRow(x, 0, INTS, 1, 2, 3, 4, 5);
        check.due("copy up", x.copy(0, 0, 0, 1, 4), 4);
        holdsRow(x, 0, INTS, 1, 1, 2, 3, 4);
        check.due("copy down", x.copy(0, 1, 0, 0, 4), 4);
        holdsRow(x, 0, INTS, 1, 2, 3, 4, 4);
        check.due("copy of none", x.copy(0, 5, 1, 3, 0), 0);
        check.due("copy to itself", x.copy(1, 0, 1, 0, 3), 3);
        holdsRow(x, 1, INTS, 2, 3, 13);
    }

    private static void promise36Refused() {
        HogMortgage x = reader();
        fill(x, 0, INTS, 1, 2, 3);
        fill(x, 1, INTS, 4, 5);
        fill(x, 2, LONGS, 6);
        int[][] bad = {{-1, 0, 0, 0, 1}, {4, 0, 0, 0, 1}, {0, 0, -1, 0, 1}, {0, 0, 4, 0, 1}, {3, 0, 4, 0, 1}};
        for (int[] b : bad) {
            check.due("bad copy", x.copy(b[0], b[1], b[2], b[3], b[4]), HogMortgage.BAD);
        }
        check.due("null from", x.copy(3, 0, 2, 9, 1), HogMortgage.NULL);
        check.due("null to", x.copy(2, 0, 3, 9, 1), HogMortgage.NULL);
        check.due("null to itself", x.copy(3, 0, 3, 9, 1), HogMortgage.NULL);
        check.due("cast", x.copy(0, 9, 2, 9, 1), HogMortgage.CAST);
        int[][] index = {{0, -1, 1, 0, 1}, {0, 0, 1, -1, 1}, {0, 0, 1, 0, -1}, {0, 2, 1, 0, 2}, {0, 0, 1, 1, 2},
            {0, 4, 1, 0, 0}, {0, 0, 1, 3, 0}, {0, Integer.MAX_VALUE, 1, 0, 1}, {0, 1, 1, 0, Integer.MAX_VALUE},
            {0, 0, 1, Integer.MAX_VALUE, 2}, {0, 0, 1, 0, Integer.MIN_VALUE}, {0, 0, 1, 0, 3}};
        for (int[] b : index) {
            check.due("index of copy", x.copy(b[0], b[1], b[2], b[3], b[4]), HogMortgage.INDEX);
        }
        holdsRow(x, 0, INTS, 1, 2, 3);
        holdsRow(x, 1, INTS, 4, 5);
    }
}
