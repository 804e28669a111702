/** Promises 18 to 30: what is foretold, and images. */
public final class ForetoldTest {
    private static final Check check = new Check();
    private static final String BUSY = "4;12.9,0.3,30.6!,7.12,99.2!!,5.20;p6,g4@2,s7@2,f5@3,y9@5";

    public static void main(String[] args) {
        promises18To20AsItComes();
        promise18Ahead();
        promise19Where();
        promise20Then();
        promise21Lost();
        promise22Free();
        promise23Keep();
        promise24Part();
        promise24PartEdges();
        promise25Drives();
        promise26Visits();
        promise27Solvent();
        promise28Sleep();
        promises29And30Image();
        foretellingChangesNothing();
        check.end();
    }

    private static void promises18To20AsItComes() {
        HogMortgage x = check.lane(BUSY);
        HogMortgage y = check.lane(BUSY);
        for (int n = 0; n <= 60; n++) {
            for (int h = 0; h < 6; h++) {
                check.due("ahead(" + h + ", " + n + ", 0)", x.ahead(h, n, 0), y.of(h, 0));
                check.due("ahead(" + h + ", " + n + ", 1)", x.ahead(h, n, 1), y.of(h, 2));
            }
            for (int g = 0; g < 5; g++) {
                check.due("where(" + g + ", " + n + ")", x.where(g, n), y.at(g, 2));
            }
            check.due("then(" + n + ", 0)", x.then(n, 0), y.count(5));
            check.due("then(" + n + ", 1)", x.then(n, 1), y.count(4));
            y.nights(1);
        }
    }

    private static void promise18Ahead() {
        HogMortgage x = check.lane("10;10.5,1.1!;p5");
        check.due("ahead(0, 0, 0)", x.ahead(0, 0, 0), 100);
        check.due("95 and 9", x.ahead(0, 1, 0), 104);
        check.due("ahead(1, 2, 1): a look more", x.ahead(1, 2, 1), 2);
        int[][] bad = {{2, 0, 0}, {-1, 0, 0}, {0, -1, 0}, {0, 61, 0}, {0, 0, -1}, {0, 0, 2}};
        for (int[] b : bad) {
            check.due("ahead(" + b[0] + ", " + b[1] + ", " + b[2] + ")", x.ahead(b[0], b[1], b[2]), HogMortgage.BAD);
        }
    }

    private static void promise19Where() {
        HogMortgage x = check.lane("0;9.5,9.5,9.6;p5,g1@2");
        int[] want = {0, 1, 2, 0, 1};
        for (int n = 0; n < want.length; n++) {
            check.due("where(0, " + n + ")", x.where(0, n), want[n]);
            check.due("where(1, " + n + ")", x.where(1, n), 2);
        }
        int[][] bad = {{2, 0}, {-1, 0}, {0, -1}, {0, 61}};
        for (int[] b : bad) {
            check.due("where(" + b[0] + ", " + b[1] + ")", x.where(b[0], b[1]), HogMortgage.BAD);
        }
    }

    private static void promise20Then() {
        HogMortgage x = check.lane("0;9.3!!,9.5!!!;p5");
        check.due("then(0, 0)", x.then(0, 0), 2);
        check.due("then(1, 0)", x.then(1, 0), 3);
        check.due("then(1, 1)", x.then(1, 1), 3);
        x.nights(1);
        check.due("eaten in all", x.then(0, 1), 3);
        int[][] bad = {{-1, 0}, {61, 0}, {0, -1}, {0, 2}};
        for (int[] b : bad) {
            check.due("then(" + b[0] + ", " + b[1] + ")", x.then(b[0], b[1]), HogMortgage.BAD);
        }
        check.due("then(60, 0) of nobody", new HogMortgage().then(60, 0), 0);
    }

    private static void promise21Lost() {
        HogMortgage x = check.lane("5;50.3,9.9!!!;p5");
        check.due("a look each night", x.lost(0), 3);
        check.due("lost by now", x.lost(1), 0);
        check.due("lost(2)", x.lost(2), HogMortgage.BAD);
        check.due("lost(-1)", x.lost(-1), HogMortgage.BAD);
        check.due("never", check.lane("5;50.5;p5").lost(0), HogMortgage.NONE);
        // This lane's house 4 is lost in night 71.
        HogMortgage y = check.lane("0;62.5!!,64.12,78.15!!,9.16!,65.8,24.11;s5@0,g2@5,p5@2");
        y.nights(11);
        check.due("61 nights are too far", y.lost(4), HogMortgage.NONE);
        y.nights(1);
        check.due("60 nights are not", y.lost(4), 60);
        y.nights(40);
        y.nights(19);
        check.due("not lost behind 59", y.of(4, 3), 0);
        y.nights(1);
        check.due("lost behind 60", y.of(4, 3), 1);
    }

    private static void promise22Free() {
        HogMortgage x = check.lane("0;1.5,0.0,99.0;p5");
        check.due("owes nothing by now", x.free(1), 0);
        check.due("never", x.free(2), HogMortgage.NONE);
        check.due("free(3)", x.free(3), HogMortgage.BAD);
        check.due("free(-1)", x.free(-1), HogMortgage.BAD);
        check.due("two meals, the second one in night 3", x.free(0), 4);
        check.due("the 45th meal is in the 60th night", paidOff(50).free(0), 60);
        check.due("the 46th is behind it", paidOff(51).free(0), HogMortgage.NONE);
        HogMortgage y = check.lane("0;1.1!!!");
        y.pay(0, 10);
        check.due("lost, but free", y.free(0), 0);
    }

    private static HogMortgage paidOff(int owes) {
        HogMortgage x = new HogMortgage();
        x.interest(0);
        x.house(owes, 1);
        x.hog(0, 1, 0);
        x.nights(5);
        return x;
    }

    private static void promise23Keep() {
        HogMortgage x = check.lane("0;50.3,50.0;p5");
        check.due("two looks lose nothing", x.keep(0, 4), 0);
        check.due("third look in night 4", x.keep(0, 5), 5);
        int[][] bad = {{2, 1}, {-1, 1}, {0, 0}, {0, 41}};
        for (int[] b : bad) {
            check.due("keep(" + b[0] + ", " + b[1] + ")", x.keep(b[0], b[1]), HogMortgage.BAD);
        }
        check.due("36 would be needed", check.lane("0;99.0!!;f9,f9").keep(0, 1), HogMortgage.NONE);
        check.due("20 is enough", check.lane("0;99.0!!;f9,p2").keep(0, 1), 20);
        check.due("lost by now", check.lane("0;99.0!!!;f9,p2").keep(0, 40), HogMortgage.NONE);
        check.due("40 nights", check.lane("0;99.0!!;p7").keep(0, 40), 7);
        check.due("paid off by less", check.lane("0;1.0!!;f8").keep(0, 1), 10);
    }

    private static void partDue(HogMortgage x, int c, int n, int[] want) {
        for (int k = 0; k < want.length; k++) {
            check.due("part(" + c + ", " + n + ", " + (k - 2) + ")", x.part(c, n, k - 2), want[k]);
        }
    }

    private static void promise24Part() {
        HogMortgage x = check.lane("0;50.9!!,50.9!!;p3,p4@1");
        partDue(x, 7, 1, new int[] {993, 2, 3, 4, HogMortgage.NONE});
        partDue(x, 6, 1, new int[] {994, 1, 2, 4, HogMortgage.NONE});
        partDue(x, 12, 1, new int[] {993, 2, 3, 9, HogMortgage.NONE});
        partDue(x, 0, 1, new int[] {1000, 0, 0, 0, HogMortgage.NONE});
        partDue(x, 3, 1, new int[] {997, 1, 3, 0, HogMortgage.NONE});
        partDue(check.lane("0;50.0,50.0;p3,p4@1"), 7, 1, new int[] {993, 2, 3, 4, HogMortgage.NONE});
        partDue(check.lane("0;50.0!!;p3"), 3, 1, new int[] {497, 1, 3, HogMortgage.NONE});
        partDue(check.lane("0;50.0!!;p3"), 2, 1, new int[] {498, 0, 2, HogMortgage.NONE});
        HogMortgage y = check.lane("0;50.0!!!,50.0;p3@1");
        partDue(y, 3, 1, new int[] {997, 1, 0, 3, HogMortgage.NONE});
        partDue(y, 12, 30, new int[] {500 + 500 - 25 * 3, 1, 0, 12, HogMortgage.NONE});
    }

    private static void promise24PartEdges() {
        HogMortgage none = new HogMortgage();
        for (int k = -2; k < 7; k++) {
            check.due("part of nobody", none.part(3, 3, k), HogMortgage.NONE);
        }
        check.due("part of nobody, bad", none.part(3, 3, -3), HogMortgage.BAD);
        HogMortgage x = check.lane(BUSY);
        int[][] bad = {{-1, 1, 0}, {13, 1, 0}, {1, 0, 0}, {1, 31, 0}, {1, 1, -3}, {1, 1, Integer.MIN_VALUE}};
        for (int[] b : bad) {
            check.due("part(" + b[0] + ", " + b[1] + ", " + b[2] + ")", x.part(b[0], b[1], b[2]), HogMortgage.BAD);
        }
        check.due("no such house", x.part(12, 30, 6), HogMortgage.NONE);
        check.due("no such house at all", x.part(12, 30, Integer.MAX_VALUE), HogMortgage.NONE);
        int all = 0;
        for (int h = 0; h < 6; h++) {
            all += x.part(12, 30, h);
        }
        check.due("all spoons are parted", all, 12);
        int[] saucers = new int[6];
        int kept = x.part(12, 30, -1);
        int owed = x.part(12, 30, -2);
        for (int h = 0; h < 6; h++) {
            saucers[h] = x.part(12, 30, h);
        }
        for (int h = 0; h < 6; h++) {
            x.put(h, saucers[h]);
        }
        x.nights(30);
        check.due("so many are kept then", 6 - Integer.bitCount(x.count(5)), kept);
        check.due("so much is owed then", x.count(6), owed);
    }

    private static void promise25Drives() {
        HogMortgage x = check.lane("0;50.0,50.5,50.5;p5");
        check.due("to the first other one", x.drives(0, 1, 0), 1);
        check.due("no looks then", x.drives(0, 1, 1), 0);
        HogMortgage y = check.lane("0;50.0,50.5;p5,p5@1");
        check.due("hog 0 to house 1", y.drives(0, 1, 0), 1);
        check.due("hog 1 to house 0", y.drives(1, 1, 0), 10);
        check.due("no looks for house 1", y.drives(1, 1, 1), 0);
        HogMortgage z = check.lane("0;50.5,50.0,50.0;p5@1");
        check.due("where it pays", z.drives(0, 1, 0), 0);
        HogMortgage late = check.lane("0;50.9,50.9,50.9;p5@1");
        check.due("where it pays, though it is not the first", late.drives(2, 1, 0), 2);
        HogMortgage looks = check.lane("0;50.9,50.9,50.3;p5@1");
        check.due("no look is better than a little paid", looks.drives(2, 1, 0), 0);
        HogMortgage lost = check.lane("0;50.0,50.0!!!;p5");
        check.due("to a lost house", lost.drives(0, 1, 0), 1);
        check.due("no look in the first night", lost.drives(0, 1, 1), 0);
        check.due("one in the second", lost.drives(0, 2, 1), 1);
        int[][] bad = {{3, 1, 0}, {-1, 1, 0}, {0, 0, 0}, {0, 41, 0}, {0, 1, -1}, {0, 1, 2}};
        for (int[] b : bad) {
            check.due("drives(" + b[0] + ", " + b[1] + ", " + b[2] + ")", x.drives(b[0], b[1], b[2]), HogMortgage.BAD);
        }
        check.due("one house", check.lane("0;9.9;p1").drives(0, 1, 0), HogMortgage.NONE);
        check.due("one house", check.lane("0;9.9;p1").drives(0, 1, 1), HogMortgage.NONE);
        check.due("no hog", check.lane("0;9.9,9.9").drives(0, 40, 0), HogMortgage.NONE);
    }

    private static void promise26Visits() {
        HogMortgage x = check.lane("0;50.5,50.5,50.5;g5@1");
        check.due("it stays there", x.visits(3, 0), 1);
        check.due("three times", x.visits(3, 1), 3);
        check.due("not in winter", x.visits(40, 1), 30);
        HogMortgage y = check.lane("0;50.0,0.1;p5");
        check.due("nothing is no visit", y.visits(2, 0), 1);
        check.due("once", y.visits(2, 1), 1);
        HogMortgage z = check.lane("0;50.9,50.9,50.9;p5@2,p5@1");
        check.due("of like ones the first", z.visits(1, 0), 1);
        check.due("once", z.visits(1, 1), 1);
        check.due("house 2 has both", z.visits(2, 0), 2);
        check.due("twice", z.visits(2, 1), 2);
        z.nights(3);
        check.due("from now on", z.visits(1, 1), 1);
        int[][] bad = {{0, 0}, {41, 0}, {1, -1}, {1, 2}};
        for (int[] b : bad) {
            check.due("visits(" + b[0] + ", " + b[1] + ")", z.visits(b[0], b[1]), HogMortgage.BAD);
        }
        HogMortgage none = new HogMortgage();
        check.due("no house", none.visits(40, 0), HogMortgage.NONE);
        check.due("no house, how often", none.visits(1, 1), HogMortgage.NONE);
        check.due("no house, bad", none.visits(0, 1), HogMortgage.BAD);
        HogMortgage quiet = check.lane("0;9.9,9.9");
        check.due("nobody comes: the first house", quiet.visits(5, 0), 0);
        check.due("nobody comes: never", quiet.visits(5, 1), 0);
    }

    private static void promise27Solvent() {
        check.due("91 and 9 (10 of 100), 10 (11 of 100)", check.lane("0;10.9;p9").solvent(0, 1), 10);
        check.due("owes nothing", check.lane("0;0.9;p9").solvent(0, 40), 20);
        check.due("nobody eats", check.lane("9;10.9").solvent(0, 1), 0);
        HogMortgage x = new HogMortgage();
        x.house(4, 0);
        check.due("too little for interest", x.solvent(0, 40), 20);
        check.due("lost: no interest", check.lane("9;10.9!!!").solvent(0, 40), 20);
        int[][] bad = {{1, 1}, {-1, 1}, {0, 0}, {0, 41}};
        for (int[] b : bad) {
            check.due("solvent(" + b[0] + ", " + b[1] + ")", x.solvent(b[0], b[1]), HogMortgage.BAD);
        }
        check.due("interest is as it was", x.count(3), 5);
        HogMortgage y = check.lane("9;10.9");
        y.nights(15);
        check.due("no interest in winter", y.solvent(0, 5), 20);
        check.due("but behind it", y.solvent(0, 6), 0);
    }

    private static void sleepDue(HogMortgage x, int house, int c, int above, int below) {
        check.due("sleep(" + house + ", " + c + ", 0)", x.sleep(house, c, 0), above);
        check.due("sleep(" + house + ", " + c + ", 1)", x.sleep(house, c, 1), below);
    }

    private static void promise28Sleep() {
        HogMortgage x = check.lane("0;50.5,50.5,50.5!!!;p5,p5,s1@1,g9@2");
        sleepDue(x, 0, 0, 1, 1);
        sleepDue(x, 0, 3, 49, 100);
        sleepDue(x, 0, 5, 1, 4);
        sleepDue(x, 0, 10, 0, 1);
        sleepDue(x, 1, 3, 0, 1);
        sleepDue(x, 2, 3, 0, 1);
        sleepDue(check.lane("0;50.4;p1,p1,p1,p1,p1"), 0, 1, 59049, 100000);
        sleepDue(check.lane("0;50.0;p1,p1"), 0, 9, 19, 100);
        sleepDue(check.lane("0;50.0"), 0, 4, 0, 1);
        sleepDue(check.lane("0;0.0;p1"), 0, 4, 0, 1);
        // Paid off only if the first one is awake; then the second one gives no look.
        sleepDue(check.lane("0;1.18;f9,f9"), 0, 5, 0, 1);
        sleepDue(check.lane("0;2.18;f5,f9"), 0, 5, 1, 4);
        x.nights(15);
        sleepDue(x, 0, 0, 0, 1);
        int[][] bad = {{3, 0, 0}, {-1, 0, 0}, {0, -1, 0}, {0, 11, 0}, {0, 0, -1}, {0, 0, 2}};
        for (int[] b : bad) {
            check.due("sleep(" + b[0] + ", " + b[1] + ", " + b[2] + ")", x.sleep(b[0], b[1], b[2]), HogMortgage.BAD);
        }
    }

    private static void promises29And30Image() {
        HogMortgage x = check.lane(BUSY);
        check.due("none yet", x.restore(), HogMortgage.NONE);
        x.nights(3);
        x.put(0, 1);
        x.seed(99);
        x.sheet(0, 2, 5);
        x.type('5');
        String was = Check.all(x);
        check.due("image()", x.image(), 1);
        x.nights(20);
        x.interest(20);
        x.drift(3);
        x.sheet(0, 1, 7);
        x.sheet(1, 1, 8);
        x.type(';');
        check.due("restore()", x.restore(), 1);
        check.same("all is as it was", Check.all(x), was);
        check.due("sheets are not", x.drop(0), 7);
        check.due("sheets are not", x.drop(1), 8);
        check.due("the tape is not", x.type('x'), 3);
        check.due("what may be undone", x.undo(), 3);
        check.due("undone", x.of(0, 1), 9);
        check.due("undone", x.undo(), 2);
        check.due("undone", x.count(2), 2);
        x.read();
        Check.typed(x, "1;1.1");
        check.due("restore() behind a new lane", x.restore(), 1);
        check.same("all is as it was, again", Check.all(x), was);
        for (int k = 3; k >= 0; k--) {
            check.due("undone from the image", x.undo(), k);
        }
        check.same("all undone", Check.all(x), Check.all(check.lane(BUSY)));
        check.due("another image", x.image(), 1);
        was = Check.all(x);
        x.house(1, 1);
        x.nights(9);
        check.due("restore()", x.restore(), 1);
        check.same("all is as it was then", Check.all(x), was);
        HogMortgage y = new HogMortgage();
        y.image();
        y.house(1, 1);
        check.due("an image of nobody", y.restore(), 1);
        check.due("nobody", y.count(0), 0);
    }

    private static void foretellingChangesNothing() {
        HogMortgage x = check.lane(BUSY);
        x.nights(2);
        x.put(1, 7);
        String was = Check.all(x);
        x.ahead(0, 60, 0);
        x.where(0, 60);
        x.then(60, 0);
        x.lost(2);
        x.free(3);
        x.keep(2, 40);
        x.part(3, 30, -1);
        x.drives(2, 40, 0);
        x.visits(40, 0);
        x.solvent(0, 40);
        x.sleep(2, 3, 0);
        x.sheet(0, 0, 24);
        x.film(2, 24, 0, 0, 0);
        x.dawns(0, 0, 0, 0, 0, 8, 0);
        x.dawns(0, 0, 0, 0, 0, 8, 1);
        check.same("foretelling changes nothing", Check.all(x), was);
        check.due("nor what is undone", x.undo(), 2);
        check.due("nor how", x.of(1, 1), 3);
    }
}
