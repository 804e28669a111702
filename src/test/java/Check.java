/** What the tests share: it prints every answer that is not as due, and ends with exit code 1 if there was one. */
final class Check {
    private int wrong = 0;
    private int seen = 0;

    void due(String call, long got, long want) {
        seen++;
        if (got != want) {
            wrong++;
            System.out.println(call + " answered " + got + ", due is " + want);
        }
    }

    void end() {
        System.out.println(seen + " answers, " + wrong + " of them wrong");
        if (wrong != 0) {
            System.exit(1);
        }
    }

    static int typed(HogMortgage x, String text) {
        for (int k = 0; k < text.length(); k++) {
            x.type(text.charAt(k));
        }
        return x.read();
    }

    /** A new object with a LANE, which must be one. */
    HogMortgage lane(String text) {
        HogMortgage x = new HogMortgage();
        if (typed(x, text) < 1) {
            due("the lane \"" + text + "\"", 0, 1);
        }
        return x;
    }

    /** All that can be asked of an object without changing it, as one text. */
    static String all(HogMortgage x) {
        StringBuilder s = new StringBuilder();
        for (int w = 0; w < 9; w++) {
            s.append(x.count(w)).append(' ');
        }
        for (int h = 0; h < x.count(0); h++) {
            s.append("| ");
            for (int w = 0; w < 5; w++) {
                s.append(x.of(h, w)).append(' ');
            }
        }
        for (int g = 0; g < x.count(1); g++) {
            s.append("/ ");
            for (int w = 0; w < 4; w++) {
                s.append(x.at(g, w)).append(' ');
            }
        }
        int draw = x.seed(7);
        x.seed(draw);
        return s.append("draw ").append(draw).toString();
    }

    void same(String what, String got, String want) {
        seen++;
        if (!got.equals(want)) {
            wrong++;
            System.out.println(what + ": " + got + ", due is " + want);
        }
    }
}
