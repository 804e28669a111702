/** Promises 10 to 17: what is done, and undone. */
public final class DoneTest {
    private static final Check check = new Check();

    public static void main(String[] args) {
        promise10Meals();
        promise10WhereHogsGo();
        promise10Lost();
        promise10Interest();
        promise10Winter();
        promise10Limits();
        promise11Put();
        promise12Pay();
        promise13Drive();
        promise14Forgive();
        promise15Drift();
        promise16Undo();
        promise16UndoLeavesInterest();
        promise17Seed();
        check.end();
    }

    private static HogMortgage after(String lane, int nights) {
        HogMortgage x = check.lane(lane);
        x.nights(nights);
        return x;
    }

    private static void promise10Meals() {
        HogMortgage x = after("0;50.5;p5", 1);
        check.due("a full meal is paid", x.of(0, 0), 495);
        check.due("a full meal, no look", x.of(0, 2), 0);
        check.due("eaten", x.count(4), 5);
        HogMortgage y = after("0;50.5;p3,p3", 1);
        check.due("two at one saucer", y.of(0, 0), 495);
        check.due("the second one had too little", y.of(0, 2), 1);
        check.due("eaten by two", y.count(4), 5);
        check.due("owes nothing, no look", after("0;0.3;p5", 3).of(0, 2), 0);
        check.due("paid off by that very meal, no look", after("0;1.10;f9", 1).of(0, 2), 0);
        check.due("paid off, 0 at least", after("0;1.20;f9", 1).of(0, 0), 0);
        check.due("eaten is more than was owed", after("0;1.20;f9", 1).count(4), 18);
        check.due("the youngest wants nothing, no look", after("0;9.0;y1", 9).of(0, 2), 0);
        check.due("young eats half", after("0;9.9;y9", 1).count(4), 4);
    }

    private static void promise10WhereHogsGo() {
        Object[][] want = {
            {"0;50.5,50.5,50.5;p5", 0, 1}, {"0;50.5,50.5,50.5;p5@2", 0, 0}, {"0;50.5,50.5,50.5;p6", 0, 1},
            {"0;50.5,50.5,50.5;g5", 0, 0}, {"0;50.5,50.5,50.5;g6", 0, 1}, {"0;50.5,50.5,50.5;g6@2", 0, 0},
            {"0;50.5,50.5,50.5;f2@1", 0, 1}, {"0;50.5,50.5,50.5;f3@1", 0, 2}, {"0;0.5,0.5;g6", 0, 1},
            {"0;50.5,50.5!!!,50.5;p5", 0, 2}, {"0;50.5,50.5!!!,50.5;g6", 0, 2}, {"0;50.5,50.5!!!;p5", 0, 0},
            {"0;50.5,50.5!!!;g6", 0, 0}, {"0;50.5;s5", 0, 0}, {"0;50.5!!!,50.5;g5", 0, 1},
            {"0;50.5!!!,50.5;f1", 0, 1}, {"0;50.5!!!,50.5!!!;p5", 0, 0},
            {"0;50.5,50.5,50.5;s5,p5@1", 0, 2}, {"0;50.5,50.5,50.5;y5,p5@1", 0, 2},
            {"0;50.5,50.5,50.5;p5,p5@1", 0, 1}, {"0;50.5,50.5,50.5;g6,p5@1", 0, 1},
            {"0;50.5,50.5;s5,p5@1", 0, 1}, {"0;50.5,50.5,50.5;s5,p5@1,p5@2", 0, 1},
            {"0;50.5,50.5!!!,50.5;s5,p5@2", 0, 2}, {"0;50.5,50.5,50.5;p5@1,s5", 1, 1},
            {"0;50.5,50.5,50.5;g5@1,s5", 1, 2}, {"0;50.5,50.5,50.5;s5,s5", 1, 2},
            {"0;50.5,50.5,50.5,50.5;s5@2,p5@3,p5", 0, 1}, {"0;50.5,50.5!!!,50.5,50.5;y2,p5@2,p5@3", 0, 2},
        };
        for (Object[] w : want) {
            HogMortgage x = after((String) w[0], 1);
            check.due(w[0] + ": hog " + w[1] + " goes to", x.at((Integer) w[1], 2), (Integer) w[2]);
        }
    }

    private static void promise10Lost() {
        HogMortgage x = check.lane("10;50.3!!,50.9;p5,p5");
        check.due("nights(1): lost at once", x.nights(1), 1);
        check.due("what it owes stays as it is", x.of(0, 0), 497);
        check.due("the other one has interest", x.of(1, 0), 550);
        check.due("no fourth look", x.of(0, 2), 3);
        check.due("the second hog got nothing there", x.count(4), 3);
        check.due("both went on", x.of(1, 4), 3);
        check.due("nights(1)", x.nights(1), 1);
        check.due("5 and 4 of the other one: 550 less 9, and 54", x.of(1, 0), 595);
        check.due("a look there", x.of(1, 2), 1);
        check.due("they stay: there is no other", x.of(1, 4), 3);
        check.due("three nights more", x.nights(2), 3);
        check.due("all are lost: nothing is eaten", after("5;9.9!!!;p5", 4).count(4), 0);
        HogMortgage y = after("5;9.9!!!,9.9;g5", 1);
        check.due("nothing eaten at a lost house", y.count(4), 0);
        check.due("nothing paid there", y.of(0, 0), 90);
    }

    private static void promise10Interest() {
        HogMortgage x = new HogMortgage();
        x.house(9000, 0);
        x.house(9999, 0);
        x.house(19, 0);
        x.house(20, 0);
        x.house(9523, 0);
        x.house(9522, 0);
        x.nights(1);
        int[] want = {9450, 9999, 19, 21, 9999, 9998};
        for (int h = 0; h < 6; h++) {
            check.due("5 of 100 for house " + h, x.of(h, 0), want[h]);
        }
        x.interest(20);
        x.nights(1);
        check.due("9999 at most", x.of(0, 0), 9999);
        check.due("20 of 100", x.of(2, 0), 22);
        HogMortgage y = after("10;10.5;p5", 3);
        check.due("95 + 9 = 104, 99 + 9 = 108, 103 + 10 = 113", y.of(0, 0), 113);
    }

    private static void promise10Winter() {
        HogMortgage x = check.lane("0;99.1,99.1;p1");
        x.nights(15);
        check.due("15 meals", x.count(4), 15);
        check.due("the hog is at", x.at(0, 2), 1);
        x.interest(20);
        check.due("winter", x.nights(5), 0);
        x.interest(0);
        check.due("the night goes on", x.count(2), 20);
        check.due("nothing eaten", x.count(4), 15);
        check.due("no interest", x.count(6), 1980 - 15);
        check.due("nobody goes", x.at(0, 2), 1);
        for (int k = 0; k < 5; k++) {
            x.undo();
        }
        check.due("winter undone", x.count(2), 15);
        check.due("three more may be", x.count(8), 3);
    }

    private static void promise10Limits() {
        HogMortgage x = check.lane("0;99.1");
        check.due("nights(0)", x.nights(0), HogMortgage.BAD);
        check.due("nights(41)", x.nights(41), HogMortgage.BAD);
        check.due("nights(-1)", x.nights(-1), HogMortgage.BAD);
        check.due("night 0 yet", x.count(2), 0);
        for (int k = 0; k < 249; k++) {
            x.nights(40);
        }
        check.due("night", x.count(2), 9960);
        String was = Check.all(x);
        check.due("above 9999", x.nights(40), HogMortgage.FULL);
        check.due("above 9999, drift", x.drift(40), HogMortgage.FULL);
        check.due("bad first", x.nights(41), HogMortgage.BAD);
        check.same("nothing has changed", Check.all(x), was);
        check.due("to 9999", x.nights(39), 0);
        check.due("night", x.count(2), 9999);
        check.due("no more", x.nights(1), HogMortgage.FULL);
        check.due("no more drift", x.drift(1), HogMortgage.FULL);
        check.due("foretold all the same", x.then(60, 0), 0);
        check.due("undone", x.undo(), 7);
        check.due("one more", x.drift(1), 0);
    }

    private static void promise11Put() {
        HogMortgage x = check.lane("0;99.7,9.9!!!");
        int[][] bad = {{2, 0}, {-1, 0}, {0, -1}, {0, 21}};
        for (int[] b : bad) {
            check.due("put(" + b[0] + ", " + b[1] + ")", x.put(b[0], b[1]), HogMortgage.BAD);
        }
        check.due("put of what it is", x.put(0, 7), HogMortgage.NOT);
        check.due("nothing to be undone", x.count(8), 0);
        check.due("put(0, 20)", x.put(0, 20), 7);
        check.due("put(0, 0)", x.put(0, 0), 20);
        check.due("put to a lost house", x.put(1, 1), 9);
        check.due("of(0, 1)", x.of(0, 1), 0);
        check.due("three to be undone", x.count(8), 3);
    }

    private static void promise12Pay() {
        HogMortgage x = check.lane("0;99.7,0.7,9.9!!!");
        int[][] bad = {{3, 1}, {-1, 1}, {0, 0}, {0, 10000}, {0, -5}, {1, 0}};
        for (int[] b : bad) {
            check.due("pay(" + b[0] + ", " + b[1] + ")", x.pay(b[0], b[1]), HogMortgage.BAD);
        }
        check.due("it owes nothing", x.pay(1, 1), HogMortgage.NOT);
        check.due("nothing to be undone", x.count(8), 0);
        check.due("pay(0, 1)", x.pay(0, 1), 989);
        check.due("pay(0, 9999)", x.pay(0, 9999), 0);
        check.due("pay(0, 1) then", x.pay(0, 1), HogMortgage.NOT);
        check.due("a lost house pays", x.pay(2, 90), 0);
        check.due("it is lost yet", x.of(2, 3), 1);
        check.due("three to be undone", x.count(8), 3);
        check.due("paid is not eaten", x.count(4), 0);
    }

    private static void promise13Drive() {
        HogMortgage x = check.lane("0;99.7,0.7,9.9!!!;p1@1,g2");
        int[][] bad = {{2, 0}, {-1, 0}, {0, -1}, {0, 3}};
        for (int[] b : bad) {
            check.due("drive(" + b[0] + ", " + b[1] + ")", x.drive(b[0], b[1]), HogMortgage.BAD);
        }
        check.due("it is there", x.drive(0, 1), HogMortgage.NOT);
        check.due("nothing to be undone", x.count(8), 0);
        check.due("drive(0, 2): a lost house", x.drive(0, 2), 1);
        check.due("at(0, 2)", x.at(0, 2), 2);
        check.due("drive(1, 2)", x.drive(1, 2), 0);
        check.due("two are there", x.of(2, 4), 3);
        check.due("two to be undone", x.count(8), 2);
    }

    private static void promise14Forgive() {
        HogMortgage x = check.lane("10;90.0!,9.9!!!,9.9;p5@1");
        check.due("forgive(3)", x.forgive(3), HogMortgage.BAD);
        check.due("forgive(-1)", x.forgive(-1), HogMortgage.BAD);
        check.due("no looks", x.forgive(2), HogMortgage.NOT);
        check.due("nothing to be undone", x.count(8), 0);
        check.due("forgive(0)", x.forgive(0), 1);
        check.due("forgive(1)", x.forgive(1), 3);
        check.due("not lost any more", x.of(1, 3), 0);
        check.due("forgive(1) again", x.forgive(1), HogMortgage.NOT);
        check.due("two to be undone", x.count(8), 2);
        check.due("a night there", x.nights(1), 0);
        check.due("90 less 5, and 8", x.of(1, 0), 93);
    }

    private static void promise15Drift() {
        HogMortgage x = check.lane("0;9.1,9.2,9.3;p9@2");
        check.due("drift(0)", x.drift(0), HogMortgage.BAD);
        check.due("drift(41)", x.drift(41), HogMortgage.BAD);
        check.due("drift(1)", x.drift(1), 0);
        check.due("house 2 has 11 of this night on", x.of(2, 1), 11);
        check.due("9 were eaten", x.count(4), 9);
        check.due("the draw", x.seed(1103527590), 1103527590);
        check.due("drift(1) again", x.drift(1), 0);
        check.due("house 1 has 7", x.of(1, 1), 7);
        check.due("house 0 as it was", x.of(0, 1), 1);
        check.due("two to be undone", x.count(8), 2);
        check.due("undo()", x.undo(), 1);
        check.due("saucer undone", x.of(1, 1), 2);
        check.due("the draw undone", x.seed(0), 1103527590);
        check.due("drift by 0", x.drift(1), 0);
        check.due("12345 is for house 0, 12", x.of(0, 1), 12);
        HogMortgage u = check.lane("0;9.1,9.2");
        u.seed(12345);
        u.drift(1);
        // The draw is 1406932606: 21468 times 65536 and more, 10991660 times 128 and more.
        check.due("by 65536, left over by 2", u.of(1, 1), 2);
        check.due("by 128, left over by 21", u.of(0, 1), 8);
        HogMortgage y = new HogMortgage();
        check.due("drift of none", y.drift(2), 0);
        check.due("the draw of none", y.seed(1), 377401575);
        check.due("the nights of none", y.count(2), 2);
        HogMortgage z = check.lane("0;9.0!!;p9");
        check.due("11 is enough for a night", z.drift(1), 0);
        check.due("7 is not: it is lost", z.drift(39), 1);
        check.due("9 and 7 were eaten", z.count(4), 16);
        HogMortgage w = check.lane("0;9.1,9.2,9.3");
        w.nights(15);
        w.drift(1);
        check.due("a saucer is drawn in winter, too", w.of(2, 1), 11);
        HogMortgage v = check.lane("0;9.1,9.2,9.3!!!");
        check.due("lost", v.drift(1), 4);
        check.due("a lost house's saucer is drawn, too", v.of(2, 1), 11);
    }

    private static void promise16Undo() {
        HogMortgage x = check.lane("5;50.3,50.4!!;p5,s3@1");
        String[] was = new String[6];
        was[0] = Check.all(x);
        x.nights(1);
        was[1] = Check.all(x);
        x.put(0, 9);
        was[2] = Check.all(x);
        x.pay(1, 100);
        was[3] = Check.all(x);
        x.drive(1, x.at(1, 2) == 0 ? 1 : 0);
        was[4] = Check.all(x);
        x.forgive(0);
        was[5] = Check.all(x);
        x.drift(1);
        check.due("six are known", x.count(8), 6);
        for (int k = 5; k >= 0; k--) {
            check.due("undo()", x.undo(), k);
            check.same("undone to " + k, Check.all(x), was[k]);
        }
        check.due("none is known", x.undo(), HogMortgage.NONE);
        check.same("nothing has changed", Check.all(x), was[0]);
        x.nights(20);
        check.due("8 are known", x.count(8), 8);
        for (int k = 7; k >= 0; k--) {
            check.due("undo()", x.undo(), k);
        }
        check.due("the older ones are lost", x.undo(), HogMortgage.NONE);
        check.due("night", x.count(2), 12);
        x.nights(3);
        x.house(1, 1);
        check.due("none behind a new house", x.undo(), HogMortgage.NONE);
        x.nights(3);
        x.hog(0, 1, 0);
        check.due("none behind a new hog", x.undo(), HogMortgage.NONE);
        x.nights(3);
        Check.typed(x, "1;1.1");
        check.due("none behind a new lane", x.undo(), HogMortgage.NONE);
    }

    private static void promise16UndoLeavesInterest() {
        HogMortgage x = check.lane("5;50.3");
        x.nights(1);
        x.interest(9);
        x.seed(77);
        x.undo();
        check.due("interest stays", x.count(3), 9);
        check.due("the draw is as ahead of it", x.seed(77), 1);
        check.due("owes is as ahead of it", x.of(0, 0), 500);
        x.put(0, 4);
        check.due("the draw is as ahead of it, told since or not", x.seed(5) + x.undo(), 77);
        check.due("the draw", x.seed(1), 77);
    }

    private static void promise17Seed() {
        HogMortgage x = new HogMortgage();
        check.due("seed(-1)", x.seed(-1), HogMortgage.BAD);
        check.due("seed(least)", x.seed(Integer.MIN_VALUE), HogMortgage.BAD);
        check.due("seed(0)", x.seed(0), 1);
        check.due("seed(most)", x.seed(Integer.MAX_VALUE), 0);
        x.house(0, 0);
        x.drift(1);
        // (2^31 - 1) * 1103515245 + 12345 has the lowest 31 bits of 12345 - 1103515245.
        check.due("the draw", x.seed(3), 1043980748);
        check.due("the saucer", x.of(0, 1), 1043980748 / 128 % 21);
        check.due("seed(3)", x.seed(3), 3);
    }
}
