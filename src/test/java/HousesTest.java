/** Promises 1 to 9: houses, hogs, the tape. */
public final class HousesTest {
    private static final Check check = new Check();

    public static void main(String[] args) {
        promise1NewObject();
        promise2House();
        promise3Hog();
        promise4Interest();
        promise5Of();
        promise6At();
        promise7Type();
        promise8ReadAnswers();
        promise8ReadTells();
        promise8FaultLeavesAll();
        promise9Count();
        check.end();
    }

    private static void promise1NewObject() {
        HogMortgage x = new HogMortgage();
        int[] want = {0, 0, 0, 5, 0, 0, 0, 0, 0};
        for (int w = 0; w < want.length; w++) {
            check.due("new: count(" + w + ")", x.count(w), want[w]);
        }
        check.due("new: undo()", x.undo(), HogMortgage.NONE);
        check.due("new: restore()", x.restore(), HogMortgage.NONE);
        check.due("new: seed(1)", x.seed(1), 1);
        for (int s = 0; s < 4; s++) {
            check.due("new: drop(" + s + ")", x.drop(s), HogMortgage.NULL);
        }
        check.due("new: read()", x.read(), -20);
        check.due("new: of(0, 0)", x.of(0, 0), HogMortgage.BAD);
        check.due("new: at(0, 0)", x.at(0, 0), HogMortgage.BAD);
    }

    private static void promise2House() {
        HogMortgage x = new HogMortgage();
        int[][] bad = {{-1, 0}, {10000, 0}, {0, -1}, {0, 21}, {Integer.MIN_VALUE, 3}, {3, Integer.MAX_VALUE}};
        for (int[] b : bad) {
            check.due("house(" + b[0] + ", " + b[1] + ")", x.house(b[0], b[1]), HogMortgage.BAD);
        }
        check.due("no house yet", x.count(0), 0);
        check.due("house(0, 0)", x.house(0, 0), 0);
        check.due("house(9999, 20)", x.house(9999, 20), 1);
        check.due("of(1, 0)", x.of(1, 0), 9999);
        check.due("of(1, 1)", x.of(1, 1), 20);
        check.due("of(1, 2)", x.of(1, 2), 0);
        x.nights(2);
        check.due("refused house", x.house(0, 21), HogMortgage.BAD);
        check.due("refused house leaves what may be undone", x.count(8), 2);
        check.due("house(5, 5)", x.house(5, 5), 2);
        check.due("a new house leaves nothing to be undone", x.count(8), 0);
        check.due("a new house leaves the night", x.count(2), 2);
        for (int h = 3; h < 6; h++) {
            check.due("house " + h, x.house(h, h), h);
        }
        x.nights(1);
        check.due("a seventh house", x.house(1, 1), HogMortgage.FULL);
        check.due("a seventh bad house", x.house(1, 21), HogMortgage.BAD);
        check.due("full: count(0)", x.count(0), 6);
        check.due("full: count(8)", x.count(8), 1);
    }

    private static void promise3Hog() {
        HogMortgage x = new HogMortgage();
        check.due("hog without a house", x.hog(0, 1, 0), HogMortgage.BAD);
        x.house(100, 5);
        x.house(100, 5);
        int[][] bad = {{-1, 1, 0}, {5, 1, 0}, {0, 0, 0}, {0, 10, 0}, {0, 1, -1}, {0, 1, 2}};
        for (int[] b : bad) {
            check.due("hog(" + b[0] + ", " + b[1] + ", " + b[2] + ")", x.hog(b[0], b[1], b[2]), HogMortgage.BAD);
        }
        check.due("no hog yet", x.count(1), 0);
        x.put(0, 6);
        check.due("count(8)", x.count(8), 1);
        check.due("hog(4, 9, 1)", x.hog(4, 9, 1), 0);
        check.due("a new hog leaves nothing to be undone", x.count(8), 0);
        check.due("at(0, 0)", x.at(0, 0), 4);
        check.due("at(0, 1)", x.at(0, 1), 9);
        check.due("at(0, 2)", x.at(0, 2), 1);
        for (int g = 1; g < 5; g++) {
            check.due("hog " + g, x.hog(g - 1, 1, 0), g);
        }
        x.put(0, 5);
        check.due("a sixth hog", x.hog(0, 1, 0), HogMortgage.FULL);
        check.due("a sixth bad hog", x.hog(0, 1, 2), HogMortgage.BAD);
        check.due("full: count(1)", x.count(1), 5);
        check.due("full: count(8)", x.count(8), 1);
    }

    private static void promise4Interest() {
        HogMortgage x = new HogMortgage();
        check.due("interest(20)", x.interest(20), 5);
        check.due("interest(21)", x.interest(21), HogMortgage.BAD);
        check.due("interest(-1)", x.interest(-1), HogMortgage.BAD);
        check.due("count(3)", x.count(3), 20);
        check.due("interest(0)", x.interest(0), 20);
        check.due("interest(0) again", x.interest(0), 0);
        check.due("interest is nothing to be undone", x.count(8), 0);
        x.house(200, 0);
        x.interest(7);
        x.nights(1);
        check.due("200 by 7 of 100", x.of(0, 0), 214);
        check.due("interest leaves what may be undone", x.interest(3) + 10 * x.count(8), 17);
    }

    private static void promise5Of() {
        HogMortgage x = check.lane("5;9.3,2.0!!!;p3,s9@1,g1@1");
        int[][] want = {{90, 3, 0, 0, 1}, {20, 0, 3, 1, 6}};
        for (int h = 0; h < 2; h++) {
            for (int w = 0; w < 5; w++) {
                check.due("of(" + h + ", " + w + ")", x.of(h, w), want[h][w]);
            }
        }
        check.due("of(2, 0)", x.of(2, 0), HogMortgage.BAD);
        check.due("of(-1, 0)", x.of(-1, 0), HogMortgage.BAD);
        check.due("of(0, -1)", x.of(0, -1), HogMortgage.BAD);
        check.due("of(0, 5)", x.of(0, 5), HogMortgage.BAD);
        HogMortgage y = check.lane("5;1.1!!");
        check.due("two looks are not lost", y.of(0, 3), 0);
        check.due("two looks", y.of(0, 2), 2);
    }

    private static void promise6At() {
        HogMortgage x = check.lane("5;9.3,2.0;p7,g7@1,s7,f9@1,y7");
        int[][] want = {{0, 7, 0, 7}, {1, 7, 1, 7}, {2, 7, 0, 7}, {3, 9, 1, 18}, {4, 7, 0, 3}};
        for (int g = 0; g < 5; g++) {
            for (int w = 0; w < 4; w++) {
                check.due("at(" + g + ", " + w + ")", x.at(g, w), want[g][w]);
            }
        }
        check.due("at(5, 0)", x.at(5, 0), HogMortgage.BAD);
        check.due("at(-1, 0)", x.at(-1, 0), HogMortgage.BAD);
        check.due("at(0, -1)", x.at(0, -1), HogMortgage.BAD);
        check.due("at(0, 4)", x.at(0, 4), HogMortgage.BAD);
        check.due("the youngest eats nothing", check.lane("5;1.1;y1").at(0, 3), 0);
    }

    private static void promise7Type() {
        HogMortgage x = new HogMortgage();
        int[] bad = {31, 127, -1, 0, Integer.MAX_VALUE, Integer.MIN_VALUE};
        for (int b : bad) {
            check.due("type(" + b + ")", x.type(b), HogMortgage.BAD);
        }
        check.due("type(32)", x.type(32), 1);
        check.due("type(126)", x.type(126), 2);
        for (int k = 3; k <= 80; k++) {
            check.due("letter " + k, x.type(' '), k);
        }
        check.due("letter 81", x.type(' '), HogMortgage.FULL);
        check.due("letter 81, bad", x.type(31), HogMortgage.BAD);
        check.due("read()", x.read(), -21);
        check.due("the tape is empty then", x.type('5'), 1);
        String longest = "5;1.1" + " ".repeat(73) + ";p";
        HogMortgage y = new HogMortgage();
        for (int k = 0; k < 80; k++) {
            y.type(longest.charAt(k));
        }
        check.due("a 81st letter", y.type('1'), HogMortgage.FULL);
        check.due("read() of 80 letters", y.read(), -100);
    }

    private static void promise8ReadAnswers() {
        Object[][] want = {
            {"", -20}, {"   ", -23}, {"x", -20}, {"  x", -22}, {"5", -21}, {"5 ", -22}, {" 5", -22}, {"5x", -21},
            {"21;1.1", -20}, {" 21;1.1", -21}, {"210;1.1", -20}, {"99", -20}, {"005;1.1", -22}, {"2 0;1.1", -22},
            {";1.1", -20}, {"-1;1.1", -20}, {"0;0.0", 1}, {"20;99.20", 1}, {"05;01.02", 1}, {" 5 ; 9 . 3 ", 1},
            {"5;", -22}, {"5;;", -22}, {"5;100.1", -24}, {"5;9 9.1", -24}, {"5;9", -23}, {"5;9,", -23}, {"5;9.", -24},
            {"5;9.21", -24}, {"5;9. 21", -25}, {"5;9.30!", -24}, {"5;9.2 0", -26}, {"5;9.200", -26}, {"5;9.x", -24},
            {"5;9!.3", -23}, {"5;9.!", -24}, {"5;9.3!", 1}, {"5;9.3!!", 1}, {"5;9.3! ! !", 1}, {"5;9.3!!!!", -28},
            {"5;9.3!!!5", -28}, {"5;9.3;", -26}, {"5;9.3; ", -27}, {"5;9.3,", -26}, {"5;9.3,,", -26},
            {"5;9.3!!!,1.1", 2}, {"5;1.1,1.1,1.1,1.1,1.1,1.1", 6}, {"5;1.1,1.1,1.1,1.1,1.1,1.1,1.1", -45},
            {"5;1.1,1.1,1.1,1.1,1.1,1.1,", -45}, {"5;1.1,1.1,1.1,1.1,1.1,1.1;p1@5", 6},
            {"5;1.1;p1,g2,s3,f4,y9", 1}, {"5;1.1;p1,p1,p1,p1,p1,p1", -40}, {"5;1.1;p1,p1,p1,p1,p1,", -40},
            {"5;1.1;q1", -26}, {"5;1.1;P1", -26}, {"5;1.1;1", -26}, {"5;1.1;p", -27}, {"5;1.1;p0", -27},
            {"5;1.1;pp", -27}, {"5;1.1;p 1", 1}, {"5;1.1;p:", -27}, {"5;1.1;p/", -27}, {"5;1.1;p12", -28},
            {"5;1.1;p1 2", -29}, {"5;1.1;p1;", -28}, {"5;1.1;p1,", -29}, {"5;1.1;p1@", -29}, {"5;1.1;p1@0", 1},
            {"5;1.1;p1@1", -29}, {"5;1.1;p1 @ 1", -31}, {"5;1.1,2.2;p1@1", 2}, {"5;1.1,2.2;p1@2", -33},
            {"5;1.1,2.2;p1@11", -34}, {"5;1.1;p1@x", -29}, {"5;1.1;p1@0@0", -30}, {"5;1.1;p1!", -28},
            {"5;1.1;p1@0,g1", 1}, {"5.1", -21}, {"5,1.1", -21},
        };
        for (Object[] w : want) {
            HogMortgage x = new HogMortgage();
            check.due("read of \"" + w[0] + "\"", Check.typed(x, (String) w[0]), (Integer) w[1]);
            check.due("the tape behind \"" + w[0] + "\"", x.type('5'), 1);
        }
    }

    private static void promise8ReadTells() {
        HogMortgage x = check.lane("9;9.9,9.9;p1,p2");
        x.nights(5);
        x.drift(1);
        check.due("read()", Check.typed(x, "17;9.3!,0.20,99.0!!!;y9@2,f1"), 3);
        check.same("a lane told", Check.all(x), "3 2 0 17 0 4 1080 0 0 "
                + "| 90 3 1 0 2 | 0 20 0 0 0 | 990 0 3 1 1 / 4 9 2 4 / 3 1 0 2 draw 1103527590");
        check.due("a lane without hogs", Check.typed(x, "0;1.1"), 1);
        check.same("all is in place of what was", Check.all(x), "1 0 0 0 0 0 10 0 0 | 10 1 0 0 0 draw 1103527590");
    }

    private static void promise8FaultLeavesAll() {
        HogMortgage x = check.lane("9;9.9,9.9!;p1,p2@1");
        x.nights(3);
        x.put(0, 4);
        String was = Check.all(x);
        check.due("read of a fault", Check.typed(x, "17;9.3!,0.20;y9@2"), -36);
        check.same("a fault leaves all", Check.all(x), was);
        check.due("and what may be undone", x.undo(), 3);
        check.due("there", x.of(0, 1), 9);
    }

    private static void promise9Count() {
        HogMortgage x = check.lane("0;10.5,20.5!!!,30.5!!!;p5,g2@1");
        int[] want = {3, 2, 0, 0, 0, 6, 600, 0, 0};
        for (int w = 0; w < want.length; w++) {
            check.due("count(" + w + ")", x.count(w), want[w]);
        }
        check.due("count(-1)", x.count(-1), HogMortgage.BAD);
        check.due("count(9)", x.count(9), HogMortgage.BAD);
        x.nights(14);
        check.due("no winter in night 14", x.count(7), 0);
        x.nights(1);
        check.due("winter in night 15", x.count(7), 1);
        check.due("8 may be undone", x.count(8), 8);
        check.due("the night", x.count(2), 15);
        x.nights(4);
        check.due("winter in night 19", x.count(7), 1);
        x.nights(1);
        check.due("no winter in night 20", x.count(7), 0);
    }
}
