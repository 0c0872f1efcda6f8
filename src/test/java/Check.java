/** Counts answers that are not due, and feeds texts to the class under test. */
final class Check {
    private int wrong;

    void due(String call, long want, long got) {
        if (got != want) {
            wrong++;
            if (wrong <= 40) {
                System.out.println(call + " answered " + got + ", due is " + want);
            }
        }
    }

    void yes(String call, boolean got) {
        due(call, 1, got ? 1 : 0);
    }

    void no(String call, boolean got) {
        due(call, 0, got ? 1 : 0);
    }

    void end() {
        System.out.println(wrong == 0 ? "all answers are as due" : wrong + " answers are not as due");
        if (wrong != 0) {
            System.exit(1);
        }
    }

    /** Five ints for each twenty bytes of a text, with blanks behind it. */
    static int[][] words(String text) {
        int[][] all = new int[(text.length() + 19) / 20][5];
        for (int i = 0; i < all.length * 20; i++) {
            int c = i < text.length() ? text.charAt(i) & 255 : ' ';
            all[i / 20][i % 20 / 4] |= c << 24 - 8 * (i % 4);
        }
        return all;
    }

    static void feed(HeardNext x, String text) {
        int[][] all = words(text);
        for (int[] w : all) {
            x.feed(w[0], w[1], w[2], w[3], w[4]);
        }
        x.back(all.length * 20 - text.length());
    }

    static int read(HeardNext x, String text) {
        feed(x, text);
        return x.read();
    }

    /** A new object that has read a text without a FAULT. */
    static HeardNext terrace(String text) {
        HeardNext x = new HeardNext();
        int fault = read(x, text);
        if (fault != 0) {
            throw new IllegalStateException("fault " + fault + " at " + x.place() + " in " + text);
        }
        return x;
    }
}
