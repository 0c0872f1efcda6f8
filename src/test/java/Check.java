import java.util.ArrayList;
import java.util.List;

/** Counts answers that are not due, and feeds texts to the class under test. */
final class Check {
    private int wrong;
    private String sentence = "";

    /** The sentence of the document that the checks from here on are about. */
    void says(String words) {
        sentence = "\"" + words + "\": ";
    }

    void due(String call, long want, long got) {
        if (got != want) {
            wrong++;
            if (wrong <= 40) {
                System.out.println(sentence + call + " answered " + got + ", due is " + want);
            }
        }
    }

    void yes(String call, boolean got) {
        due(call, 1, got ? 1 : 0);
    }

    void no(String call, boolean got) {
        due(call, 0, got ? 1 : 0);
    }

    void end() {
        System.out.println(wrong == 0 ? "all answers are as due" : wrong + " answers are not as due");
        if (wrong != 0) {
            System.exit(1);
        }
    }

    /** A new object that reads a text: the number and the place of its FAULT, and an empty tape behind it. */
    HeardNext reads(String text, int fault, int place) {
        HeardNext x = new HeardNext();
        String told = text.length() > 60 ? text.substring(0, 30) + " .. " + text.substring(text.length() - 26) : text;
        due("read of " + told, fault, read(x, text));
        due("place of " + told, place, x.place());
        due("tape behind " + told, 0, x.count(9));
        return x;
    }

    /** Five ints for each twenty bytes of a text, with blanks behind it. */
    static int[][] words(String text) {
        int[][] all = new int[(text.length() + 19) / 20][5];
        for (int i = 0; i < all.length * 20; i++) {
            int c = i < text.length() ? text.charAt(i) & 255 : ' ';
            all[i / 20][i % 20 / 4] |= c << 24 - 8 * (i % 4);
        }
        return all;
    }

    static void feed(HeardNext x, String text) {
        int[][] all = words(text);
        for (int[] w : all) {
            x.feed(w[0], w[1], w[2], w[3], w[4]);
        }
        x.back(all.length * 20 - text.length());
    }

    static int read(HeardNext x, String text) {
        feed(x, text);
        return x.read();
    }

    /** A new object that has read a text without a FAULT. */
    static HeardNext terrace(String text) {
        HeardNext x = new HeardNext();
        int fault = read(x, text);
        if (fault != 0) {
            throw new IllegalStateException("fault " + fault + " at " + x.place() + " in " + text);
        }
        return x;
    }

    /** So many HOUSES, told a, b, c .., each with what is WANTED and the AGE. */
    static String houses(int n, String wantedAndAge) {
        StringBuilder all = new StringBuilder();
        for (int i = 0; i < n; i++) all.append("house ").append((char) ('a' + i)).append(' ').append(wantedAndAge).append(';');
        return all.toString();
    }

    /** All that can be seen of an object without a change of it. */
    static List<Integer> seen(HeardNext x) {
        List<Integer> all = new ArrayList<>();
        for (int what = 0; what <= 17; what++) all.add(x.count(what));
        for (int h = 0; h < x.count(0); h++) {
            for (int what = 0; what <= 9; what++) all.add(x.house(h, what));
            all.add(x.comes(h, 129));
        }
        for (int k = 0; k <= x.count(11); k++) all.add(x.sent(k, 0));
        return all;
    }

    /** The same, and what comes to light as all that can be undone is undone, and the SLOTS are gone on from. */
    static List<Integer> seenToTheEnd(HeardNext x) {
        List<Integer> all = seen(x);
        while (x.undo()) all.addAll(List.of(x.count(2), x.count(4), x.count(5), x.count(14), x.count(16), x.count(17)));
        for (int slot = 0; slot < 3; slot++) all.addAll(List.of(x.restore(slot) ? 1 : 0, x.count(2), x.count(5), x.count(14)));
        all.add(x.read());
        all.add(x.place());
        all.add(x.count(0));
        return all;
    }
}
